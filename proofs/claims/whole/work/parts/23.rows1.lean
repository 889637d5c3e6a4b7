section ROWS40
variable {d : Nat} {h : PH} {Q : PO → Prop} {st : List Value} {x y n sp dp : Int32} {x8 y8 : Int64} {xd yd : UInt64} {a b : Nat} {v v0 v1 v2 v3 v4 v5 v6 v7 v8 v9 : Value} {l0 l1 l2 l3 l4 l5 l6 l7 l8 l9 l10 l11 l12 l13 l14 l15 l16 l17 l18 l19 l20 l21 l22 l23 : Option Value}
theorem hm40 : mhs 40 = [] := by decide +kernel
theorem f40_0 : fetch 40 0 = some (.aload_n 0, 1, [], .null) := by decide +kernel
theorem w40_0 : Wp d 40 0 [some (.ref a), l1, l2, l3] st h Q = Wp d 40 1 [some (.ref a), l1, l2, l3] (.ref a :: st) h Q := W_go f40_0 rfl
theorem f40_1 : fetch 40 1 = some (.invokespecial 3, 3, [9999, 1153, 1031, 1032], .null) := by decide +kernel
theorem w40_1 (hp : psum st ≤ 8 ∧ a ≠ 201) : Wp d 40 1 [l0, l1, l2, l3] (.ref a :: st) h Q = Wp d 40 4 [l0, l1, l2, l3] st h Q := W_go f40_1 (by simp only [pstep, if_pos hp]; rfl)
theorem f40_4 : fetch 40 4 = some (.aload_n 0, 1, [], .null) := by decide +kernel
theorem w40_4 : Wp d 40 4 [some (.ref a), l1, l2, l3] st h Q = Wp d 40 5 [some (.ref a), l1, l2, l3] (.ref a :: st) h Q := W_go f40_4 rfl
theorem f40_5 : fetch 40 5 = some (.sipush 401, 3, [], .null) := by decide +kernel
theorem w40_5 : Wp d 40 5 [l0, l1, l2, l3] st h Q = Wp d 40 8 [l0, l1, l2, l3] (.int (401 : Int32) :: st) h Q := W_go f40_5 rfl
theorem f40_8 : fetch 40 8 = some (.newarray .int, 2, [0, 1141], .null) := by decide +kernel
theorem w40_8 (hx : ¬ x < 0 ∧ x.toNatClampNeg ≤ 60000) : Wp d 40 8 [l0, l1, l2, l3] (.int x :: st) h Q = Wp d 40 10 [l0, l1, l2, l3] (.ref h.1.1 :: st) (hnew h x.toNatClampNeg (.inl (0, arr0 0 x.toNatClampNeg))) Q := W_go f40_8 (by simp only [pstep, pnewa, if_pos hx]; rfl)
theorem f40_10 : fetch 40 10 = some (.putfield 9, 3, [5, 0, 1208, 0], .null) := by decide +kernel
theorem w40_10 : Wp d 40 10 [l0, l1, l2, l3] (v :: .ref a :: st) h Q = pP (h.2 a) 5 0 (ftOf 5 0) v a (fun c => Wp d 40 13 [l0, l1, l2, l3] st (hset h a c) Q) := W_put f40_10 (by rfl)
theorem f40_13 : fetch 40 13 = some (.aload_n 0, 1, [], .null) := by decide +kernel
theorem w40_13 : Wp d 40 13 [some (.ref a), l1, l2, l3] st h Q = Wp d 40 14 [some (.ref a), l1, l2, l3] (.ref a :: st) h Q := W_go f40_13 rfl
theorem f40_14 : fetch 40 14 = some (.sipush 401, 3, [], .null) := by decide +kernel
theorem w40_14 : Wp d 40 14 [l0, l1, l2, l3] st h Q = Wp d 40 17 [l0, l1, l2, l3] (.int (401 : Int32) :: st) h Q := W_go f40_14 rfl
theorem f40_17 : fetch 40 17 = some (.newarray .int, 2, [0, 1141], .null) := by decide +kernel
theorem w40_17 (hx : ¬ x < 0 ∧ x.toNatClampNeg ≤ 60000) : Wp d 40 17 [l0, l1, l2, l3] (.int x :: st) h Q = Wp d 40 19 [l0, l1, l2, l3] (.ref h.1.1 :: st) (hnew h x.toNatClampNeg (.inl (0, arr0 0 x.toNatClampNeg))) Q := W_go f40_17 (by simp only [pstep, pnewa, if_pos hx]; rfl)
theorem f40_19 : fetch 40 19 = some (.putfield 15, 3, [5, 1, 1210, 0], .null) := by decide +kernel
theorem w40_19 : Wp d 40 19 [l0, l1, l2, l3] (v :: .ref a :: st) h Q = pP (h.2 a) 5 1 (ftOf 5 1) v a (fun c => Wp d 40 22 [l0, l1, l2, l3] st (hset h a c) Q) := W_put f40_19 (by rfl)
theorem f40_22 : fetch 40 22 = some (.aload_n 0, 1, [], .null) := by decide +kernel
theorem w40_22 : Wp d 40 22 [some (.ref a), l1, l2, l3] st h Q = Wp d 40 23 [some (.ref a), l1, l2, l3] (.ref a :: st) h Q := W_go f40_22 rfl
theorem f40_23 : fetch 40 23 = some (.sipush 401, 3, [], .null) := by decide +kernel
theorem w40_23 : Wp d 40 23 [l0, l1, l2, l3] st h Q = Wp d 40 26 [l0, l1, l2, l3] (.int (401 : Int32) :: st) h Q := W_go f40_23 rfl
theorem f40_26 : fetch 40 26 = some (.newarray .long, 2, [1, 1224], .null) := by decide +kernel
theorem w40_26 (hx : ¬ x < 0 ∧ x.toNatClampNeg ≤ 60000) : Wp d 40 26 [l0, l1, l2, l3] (.int x :: st) h Q = Wp d 40 28 [l0, l1, l2, l3] (.ref h.1.1 :: st) (hnew h x.toNatClampNeg (.inl (1, arr0 1 x.toNatClampNeg))) Q := W_go f40_26 (by simp only [pstep, pnewa, if_pos hx]; rfl)
theorem f40_28 : fetch 40 28 = some (.putfield 18, 3, [5, 2, 1212, 0], .null) := by decide +kernel
theorem w40_28 : Wp d 40 28 [l0, l1, l2, l3] (v :: .ref a :: st) h Q = pP (h.2 a) 5 2 (ftOf 5 2) v a (fun c => Wp d 40 31 [l0, l1, l2, l3] st (hset h a c) Q) := W_put f40_28 (by rfl)
theorem f40_31 : fetch 40 31 = some (.aload_n 0, 1, [], .null) := by decide +kernel
theorem w40_31 : Wp d 40 31 [some (.ref a), l1, l2, l3] st h Q = Wp d 40 32 [some (.ref a), l1, l2, l3] (.ref a :: st) h Q := W_go f40_31 rfl
theorem f40_32 : fetch 40 32 = some (.bipush 23, 2, [], .null) := by decide +kernel
theorem w40_32 : Wp d 40 32 [l0, l1, l2, l3] st h Q = Wp d 40 34 [l0, l1, l2, l3] (.int (23 : Int32) :: st) h Q := W_go f40_32 rfl
theorem f40_34 : fetch 40 34 = some (.newarray .long, 2, [1, 1224], .null) := by decide +kernel
theorem w40_34 (hx : ¬ x < 0 ∧ x.toNatClampNeg ≤ 60000) : Wp d 40 34 [l0, l1, l2, l3] (.int x :: st) h Q = Wp d 40 36 [l0, l1, l2, l3] (.ref h.1.1 :: st) (hnew h x.toNatClampNeg (.inl (1, arr0 1 x.toNatClampNeg))) Q := W_go f40_34 (by simp only [pstep, pnewa, if_pos hx]; rfl)
theorem f40_36 : fetch 40 36 = some (.putfield 22, 3, [5, 3, 1214, 0], .null) := by decide +kernel
theorem w40_36 : Wp d 40 36 [l0, l1, l2, l3] (v :: .ref a :: st) h Q = pP (h.2 a) 5 3 (ftOf 5 3) v a (fun c => Wp d 40 39 [l0, l1, l2, l3] st (hset h a c) Q) := W_put f40_36 (by rfl)
theorem f40_39 : fetch 40 39 = some (.iconst 0, 1, [], .null) := by decide +kernel
theorem w40_39 : Wp d 40 39 [l0, l1, l2, l3] st h Q = Wp d 40 40 [l0, l1, l2, l3] (.int (0 : Int32) :: st) h Q := W_go f40_39 rfl
theorem f40_40 : fetch 40 40 = some (.istore_n 1, 1, [], .null) := by decide +kernel
theorem w40_40 : Wp d 40 40 [l0, l1, l2, l3] (.int x :: st) h Q = Wp d 40 41 [kl l0, some (.int x), l2, l3] st h Q := (W_st1 (pc' := 41) (k := 1) f40_40 rfl rfl (by simp only [List.length_cons, List.length_nil]; omega)).trans (by rw [pst1_succ]; rfl)
theorem f40_41 : fetch 40 41 = some (.iconst 0, 1, [], .null) := by decide +kernel
theorem w40_41 : Wp d 40 41 [l0, l1, l2, l3] st h Q = Wp d 40 42 [l0, l1, l2, l3] (.int (0 : Int32) :: st) h Q := W_go f40_41 rfl
theorem f40_42 : fetch 40 42 = some (.istore_n 2, 1, [], .null) := by decide +kernel
theorem w40_42 : Wp d 40 42 [l0, l1, l2, l3] (.int x :: st) h Q = Wp d 40 43 [l0, kl l1, some (.int x), l3] st h Q := (W_st1 (pc' := 43) (k := 2) f40_42 rfl rfl (by simp only [List.length_cons, List.length_nil]; omega)).trans (by rw [pst1_succ]; rfl)
theorem f40_43 : fetch 40 43 = some (.iload_n 2, 1, [], .null) := by decide +kernel
theorem w40_43 : Wp d 40 43 [l0, l1, some (.int x), l3] st h Q = Wp d 40 44 [l0, l1, some (.int x), l3] (.int x :: st) h Q := W_go f40_43 rfl
theorem f40_44 : fetch 40 44 = some (.ldc 25, 2, [1154], .ref 1) := by decide +kernel
theorem w40_44 : Wp d 40 44 [l0, l1, l2, l3] st h Q = Wp d 40 46 [l0, l1, l2, l3] ((.ref 1) :: st) h Q := W_go f40_44 rfl
theorem f40_46 : fetch 40 46 = some (.invokevirtual 27, 3, [229, 1, 12, 0, 1155, 1006, 1158, 1156, 1157], .null) := by decide +kernel
theorem w40_46 (hp : psum st ≤ 8) : Wp d 40 46 [l0, l1, l2, l3] ((.ref b) :: st) h Q = rP (h.2 b) 11 (Cp d 229 [(.ref b)] h (fun o => cK o (fun w h2 => Wp d 40 49 [l0, l1, l2, l3] (w.toList ++ st) h2 Q) (fun E h2 => Q (.inr E, h2)))) := (W_invV (st := st) f40_46 rfl rfl (by simp only [List.length_cons]; omega) rfl rfl hp).trans (by simp only [hm40, if_true])
theorem f40_49 : fetch 40 49 = some (.if_icmp .ge 53, 3, [], .null) := by decide +kernel
theorem w40_49 : Wp d 40 49 [l0, l1, l2, l3] (.int y :: .int x :: st) h Q = if icond .ge x y = true then Wp d 40 102 [l0, l1, l2, l3] st h Q else Wp d 40 52 [l0, l1, l2, l3] st h Q := W_if f40_49 rfl
theorem f40_52 : fetch 40 52 = some (.ldc 25, 2, [1154], .ref 1) := by decide +kernel
theorem w40_52 : Wp d 40 52 [l0, l1, l2, l3] st h Q = Wp d 40 54 [l0, l1, l2, l3] ((.ref 1) :: st) h Q := W_go f40_52 rfl
theorem f40_54 : fetch 40 54 = some (.iload_n 2, 1, [], .null) := by decide +kernel
theorem w40_54 : Wp d 40 54 [l0, l1, some (.int x), l3] st h Q = Wp d 40 55 [l0, l1, some (.int x), l3] (.int x :: st) h Q := W_go f40_54 rfl
theorem f40_55 : fetch 40 55 = some (.invokevirtual 33, 3, [230, 2, 12, 0, 1165, 1006, 1168, 1166, 1167], .null) := by decide +kernel
theorem w40_55 (hp : psum st ≤ 8) : Wp d 40 55 [l0, l1, l2, l3] (v1 :: (.ref b) :: st) h Q = rP (h.2 b) 11 (Cp d 230 [(.ref b), v1] h (fun o => cK o (fun w h2 => Wp d 40 58 [l0, l1, l2, l3] (w.toList ++ st) h2 Q) (fun E h2 => Q (.inr E, h2)))) := (W_invV (st := st) f40_55 rfl rfl (by simp only [List.length_cons]; omega) rfl rfl hp).trans (by simp only [hm40, if_true])
theorem f40_58 : fetch 40 58 = some (.istore_n 3, 1, [], .null) := by decide +kernel
theorem w40_58 : Wp d 40 58 [l0, l1, l2, l3] (.int x :: st) h Q = Wp d 40 59 [l0, l1, kl l2, some (.int x)] st h Q := (W_st1 (pc' := 59) (k := 3) f40_58 rfl rfl (by simp only [List.length_cons, List.length_nil]; omega)).trans (by rw [pst1_succ]; rfl)
theorem f40_59 : fetch 40 59 = some (.iload_n 3, 1, [], .null) := by decide +kernel
theorem w40_59 : Wp d 40 59 [l0, l1, l2, some (.int x)] st h Q = Wp d 40 60 [l0, l1, l2, some (.int x)] (.int x :: st) h Q := W_go f40_59 rfl
theorem f40_60 : fetch 40 60 = some (.bipush 32, 2, [], .null) := by decide +kernel
theorem w40_60 : Wp d 40 60 [l0, l1, l2, l3] st h Q = Wp d 40 62 [l0, l1, l2, l3] (.int (32 : Int32) :: st) h Q := W_go f40_60 rfl
theorem f40_62 : fetch 40 62 = some (.if_icmp .ne 9, 3, [], .null) := by decide +kernel
theorem w40_62 : Wp d 40 62 [l0, l1, l2, l3] (.int y :: .int x :: st) h Q = if icond .ne x y = true then Wp d 40 71 [l0, l1, l2, l3] st h Q else Wp d 40 65 [l0, l1, l2, l3] st h Q := W_if f40_62 rfl
theorem f40_65 : fetch 40 65 = some (.iinc 1 1, 3, [], .null) := by decide +kernel
theorem w40_65 : Wp d 40 65 [l0, some (.int x), l2, l3] st h Q = Wp d 40 68 [kl l0, some (.int (x + (1 : Int32))), l2, l3] st h Q := (W_iinc (y := (1 : Int32)) f40_65 rfl (by simp only [List.length_cons, List.length_nil]; omega) (by decide)).trans (by rw [pst1_succ]; rfl)
theorem f40_68 : fetch 40 68 = some (.goto 28, 3, [], .null) := by decide +kernel
theorem w40_68 : Wp d 40 68 [l0, l1, l2, l3] st h Q = Wp d 40 96 [l0, l1, l2, l3] st h Q := W_go f40_68 rfl
theorem f40_71 : fetch 40 71 = some (.iload_n 1, 1, [], .null) := by decide +kernel
theorem w40_71 : Wp d 40 71 [l0, some (.int x), l2, l3] st h Q = Wp d 40 72 [l0, some (.int x), l2, l3] (.int x :: st) h Q := W_go f40_71 rfl
theorem f40_72 : fetch 40 72 = some (.aload_n 0, 1, [], .null) := by decide +kernel
theorem w40_72 : Wp d 40 72 [some (.ref a), l1, l2, l3] st h Q = Wp d 40 73 [some (.ref a), l1, l2, l3] (.ref a :: st) h Q := W_go f40_72 rfl
theorem f40_73 : fetch 40 73 = some (.getfield 22, 3, [5, 3, 1214, 0], .null) := by decide +kernel
theorem w40_73 : Wp d 40 73 [l0, l1, l2, l3] (.ref a :: st) h Q = gP (h.2 a) 5 3 (fun w => Wp d 40 76 [l0, l1, l2, l3] (w :: st) h Q) := W_get f40_73 rfl
theorem f40_76 : fetch 40 76 = some (.arraylength, 1, [], .null) := by decide +kernel
theorem w40_76 : Wp d 40 76 [l0, l1, l2, l3] (.ref a :: st) h Q = nP (h.2 a) (fun w => Wp d 40 77 [l0, l1, l2, l3] (.int w :: st) h Q) := W_len f40_76 rfl
theorem f40_77 : fetch 40 77 = some (.if_icmp .ge 19, 3, [], .null) := by decide +kernel
theorem w40_77 : Wp d 40 77 [l0, l1, l2, l3] (.int y :: .int x :: st) h Q = if icond .ge x y = true then Wp d 40 96 [l0, l1, l2, l3] st h Q else Wp d 40 80 [l0, l1, l2, l3] st h Q := W_if f40_77 rfl
theorem f40_80 : fetch 40 80 = some (.aload_n 0, 1, [], .null) := by decide +kernel
theorem w40_80 : Wp d 40 80 [some (.ref a), l1, l2, l3] st h Q = Wp d 40 81 [some (.ref a), l1, l2, l3] (.ref a :: st) h Q := W_go f40_80 rfl
theorem f40_81 : fetch 40 81 = some (.getfield 22, 3, [5, 3, 1214, 0], .null) := by decide +kernel
theorem w40_81 : Wp d 40 81 [l0, l1, l2, l3] (.ref a :: st) h Q = gP (h.2 a) 5 3 (fun w => Wp d 40 84 [l0, l1, l2, l3] (w :: st) h Q) := W_get f40_81 rfl
theorem f40_84 : fetch 40 84 = some (.iload_n 1, 1, [], .null) := by decide +kernel
theorem w40_84 : Wp d 40 84 [l0, some (.int x), l2, l3] st h Q = Wp d 40 85 [l0, some (.int x), l2, l3] (.int x :: st) h Q := W_go f40_84 rfl
theorem f40_85 : fetch 40 85 = some (.aload_n 0, 1, [], .null) := by decide +kernel
theorem w40_85 : Wp d 40 85 [some (.ref a), l1, l2, l3] st h Q = Wp d 40 86 [some (.ref a), l1, l2, l3] (.ref a :: st) h Q := W_go f40_85 rfl
theorem f40_86 : fetch 40 86 = some (.getfield 22, 3, [5, 3, 1214, 0], .null) := by decide +kernel
theorem w40_86 : Wp d 40 86 [l0, l1, l2, l3] (.ref a :: st) h Q = gP (h.2 a) 5 3 (fun w => Wp d 40 89 [l0, l1, l2, l3] (w :: st) h Q) := W_get f40_86 rfl
theorem f40_89 : fetch 40 89 = some (.iload_n 1, 1, [], .null) := by decide +kernel
theorem w40_89 : Wp d 40 89 [l0, some (.int x), l2, l3] st h Q = Wp d 40 90 [l0, some (.int x), l2, l3] (.int x :: st) h Q := W_go f40_89 rfl
theorem f40_90 : fetch 40 90 = some (.laload, 1, [], .null) := by decide +kernel
theorem w40_90 : Wp d 40 90 [l0, l1, l2, l3] (.int x :: .ref a :: st) h Q = lP (h.2 a) x (fun w => Wp d 40 91 [l0, l1, l2, l3] (.long w :: st) h Q) := W_lld f40_90 rfl
theorem f40_91 : fetch 40 91 = some (.iload_n 3, 1, [], .null) := by decide +kernel
theorem w40_91 : Wp d 40 91 [l0, l1, l2, some (.int x)] st h Q = Wp d 40 92 [l0, l1, l2, some (.int x)] (.int x :: st) h Q := W_go f40_91 rfl
theorem f40_92 : fetch 40 92 = some (.invokestatic 37, 3, [48, 2, 0, 0, 1203, 1005, 1205, 1204], .null) := by decide +kernel
theorem w40_92 (hp : psum st ≤ 8) : Wp d 40 92 [l0, l1, l2, l3] (v1 :: v0 :: st) h Q = Cp d 48 [v0, v1] h (fun o => cK o (fun w h2 => Wp d 40 95 [l0, l1, l2, l3] (w.toList ++ st) h2 Q) (fun _ _ => False)) := (W_invS (st := st) f40_92 rfl rfl (by simp only [List.length_cons]; omega) rfl rfl hp)
theorem f40_95 : fetch 40 95 = some (.lastore, 1, [], .null) := by decide +kernel
theorem w40_95 : Wp d 40 95 [l0, l1, l2, l3] (.long y8 :: .int x :: .ref a :: st) h Q = lsP (h.2 a) a x y8 (fun c => Wp d 40 96 [l0, l1, l2, l3] st (hset h a c) Q) := W_lst f40_95 rfl
theorem f40_96 : fetch 40 96 = some (.iinc 2 1, 3, [], .null) := by decide +kernel
theorem w40_96 : Wp d 40 96 [l0, l1, some (.int x), l3] st h Q = Wp d 40 99 [l0, kl l1, some (.int (x + (1 : Int32))), l3] st h Q := (W_iinc (y := (1 : Int32)) f40_96 rfl (by simp only [List.length_cons, List.length_nil]; omega) (by decide)).trans (by rw [pst1_succ]; rfl)
theorem f40_99 : fetch 40 99 = some (.goto (-56), 3, [], .null) := by decide +kernel
theorem w40_99 : Wp d 40 99 [l0, l1, l2, l3] st h Q = Wp d 40 43 [l0, l1, l2, l3] st h Q := W_go f40_99 rfl
theorem f40_102 : fetch 40 102 = some (.return_, 1, [], .null) := by decide +kernel
theorem w40_102 : Wp d 40 102 [l0, l1, l2, l3] [] h Q = Q (.inl none, h) := W_fin f40_102 rfl
theorem hm41 : mhs 41 = [] := by decide +kernel
theorem f41_0 : fetch 41 0 = some (.iconst 0, 1, [], .null) := by decide +kernel
theorem w41_0 : Wp d 41 0 [l0, l1, l2, l3, l4] st h Q = Wp d 41 1 [l0, l1, l2, l3, l4] (.int (0 : Int32) :: st) h Q := W_go f41_0 rfl
theorem f41_1 : fetch 41 1 = some (.istore_n 2, 1, [], .null) := by decide +kernel
theorem w41_1 : Wp d 41 1 [l0, l1, l2, l3, l4] (.int x :: st) h Q = Wp d 41 2 [l0, kl l1, some (.int x), l3, l4] st h Q := (W_st1 (pc' := 2) (k := 2) f41_1 rfl rfl (by simp only [List.length_cons, List.length_nil]; omega)).trans (by rw [pst1_succ]; rfl)
theorem f41_2 : fetch 41 2 = some (.iconst 1, 1, [], .null) := by decide +kernel
theorem w41_2 : Wp d 41 2 [l0, l1, l2, l3, l4] st h Q = Wp d 41 3 [l0, l1, l2, l3, l4] (.int (1 : Int32) :: st) h Q := W_go f41_2 rfl
theorem f41_3 : fetch 41 3 = some (.istore_n 3, 1, [], .null) := by decide +kernel
theorem w41_3 : Wp d 41 3 [l0, l1, l2, l3, l4] (.int x :: st) h Q = Wp d 41 4 [l0, l1, kl l2, some (.int x), l4] st h Q := (W_st1 (pc' := 4) (k := 3) f41_3 rfl rfl (by simp only [List.length_cons, List.length_nil]; omega)).trans (by rw [pst1_succ]; rfl)
theorem f41_4 : fetch 41 4 = some (.iconst 0, 1, [], .null) := by decide +kernel
theorem w41_4 : Wp d 41 4 [l0, l1, l2, l3, l4] st h Q = Wp d 41 5 [l0, l1, l2, l3, l4] (.int (0 : Int32) :: st) h Q := W_go f41_4 rfl
theorem f41_5 : fetch 41 5 = some (.istore 4, 2, [], .null) := by decide +kernel
theorem w41_5 : Wp d 41 5 [l0, l1, l2, l3, l4] (.int x :: st) h Q = Wp d 41 7 [l0, l1, l2, kl l3, some (.int x)] st h Q := (W_st1 (pc' := 7) (k := 4) f41_5 rfl rfl (by simp only [List.length_cons, List.length_nil]; omega)).trans (by rw [pst1_succ]; rfl)
theorem f41_7 : fetch 41 7 = some (.iload_n 3, 1, [], .null) := by decide +kernel
theorem w41_7 : Wp d 41 7 [l0, l1, l2, some (.int x), l4] st h Q = Wp d 41 8 [l0, l1, l2, some (.int x), l4] (.int x :: st) h Q := W_go f41_7 rfl
theorem f41_8 : fetch 41 8 = some (.ifCond .eq 99, 3, [], .null) := by decide +kernel
theorem w41_8 : Wp d 41 8 [l0, l1, l2, l3, l4] (.int x :: st) h Q = if icond .eq x 0 = true then Wp d 41 107 [l0, l1, l2, l3, l4] st h Q else Wp d 41 11 [l0, l1, l2, l3, l4] st h Q := W_if f41_8 rfl
theorem f41_11 : fetch 41 11 = some (.iload 4, 2, [], .null) := by decide +kernel
theorem w41_11 : Wp d 41 11 [l0, l1, l2, l3, some (.int x)] st h Q = Wp d 41 13 [l0, l1, l2, l3, some (.int x)] (.int x :: st) h Q := W_go f41_11 rfl
theorem f41_13 : fetch 41 13 = some (.sipush 400, 3, [], .null) := by decide +kernel
theorem w41_13 : Wp d 41 13 [l0, l1, l2, l3, l4] st h Q = Wp d 41 16 [l0, l1, l2, l3, l4] (.int (400 : Int32) :: st) h Q := W_go f41_13 rfl
theorem f41_16 : fetch 41 16 = some (.if_icmp .gt 91, 3, [], .null) := by decide +kernel
theorem w41_16 : Wp d 41 16 [l0, l1, l2, l3, l4] (.int y :: .int x :: st) h Q = if icond .gt x y = true then Wp d 41 107 [l0, l1, l2, l3, l4] st h Q else Wp d 41 19 [l0, l1, l2, l3, l4] st h Q := W_if f41_16 rfl
theorem f41_19 : fetch 41 19 = some (.iload 4, 2, [], .null) := by decide +kernel
theorem w41_19 : Wp d 41 19 [l0, l1, l2, l3, some (.int x)] st h Q = Wp d 41 21 [l0, l1, l2, l3, some (.int x)] (.int x :: st) h Q := W_go f41_19 rfl
theorem f41_21 : fetch 41 21 = some (.aload_n 0, 1, [], .null) := by decide +kernel
theorem w41_21 : Wp d 41 21 [some (.ref a), l1, l2, l3, l4] st h Q = Wp d 41 22 [some (.ref a), l1, l2, l3, l4] (.ref a :: st) h Q := W_go f41_21 rfl
theorem f41_22 : fetch 41 22 = some (.getfield 9, 3, [5, 0, 1208, 0], .null) := by decide +kernel
theorem w41_22 : Wp d 41 22 [l0, l1, l2, l3, l4] (.ref a :: st) h Q = gP (h.2 a) 5 0 (fun w => Wp d 41 25 [l0, l1, l2, l3, l4] (w :: st) h Q) := W_get f41_22 rfl
theorem f41_25 : fetch 41 25 = some (.arraylength, 1, [], .null) := by decide +kernel
theorem w41_25 : Wp d 41 25 [l0, l1, l2, l3, l4] (.ref a :: st) h Q = nP (h.2 a) (fun w => Wp d 41 26 [l0, l1, l2, l3, l4] (.int w :: st) h Q) := W_len f41_25 rfl
theorem f41_26 : fetch 41 26 = some (.if_icmp .ge 81, 3, [], .null) := by decide +kernel
theorem w41_26 : Wp d 41 26 [l0, l1, l2, l3, l4] (.int y :: .int x :: st) h Q = if icond .ge x y = true then Wp d 41 107 [l0, l1, l2, l3, l4] st h Q else Wp d 41 29 [l0, l1, l2, l3, l4] st h Q := W_if f41_26 rfl
theorem f41_29 : fetch 41 29 = some (.aload_n 0, 1, [], .null) := by decide +kernel
theorem w41_29 : Wp d 41 29 [some (.ref a), l1, l2, l3, l4] st h Q = Wp d 41 30 [some (.ref a), l1, l2, l3, l4] (.ref a :: st) h Q := W_go f41_29 rfl
theorem f41_30 : fetch 41 30 = some (.aload_n 1, 1, [], .null) := by decide +kernel
theorem w41_30 : Wp d 41 30 [l0, some (.ref a), l2, l3, l4] st h Q = Wp d 41 31 [l0, some (.ref a), l2, l3, l4] (.ref a :: st) h Q := W_go f41_30 rfl
theorem f41_31 : fetch 41 31 = some (.aload_n 1, 1, [], .null) := by decide +kernel
theorem w41_31 : Wp d 41 31 [l0, some (.ref a), l2, l3, l4] st h Q = Wp d 41 32 [l0, some (.ref a), l2, l3, l4] (.ref a :: st) h Q := W_go f41_31 rfl
theorem f41_32 : fetch 41 32 = some (.iload_n 2, 1, [], .null) := by decide +kernel
theorem w41_32 : Wp d 41 32 [l0, l1, some (.int x), l3, l4] st h Q = Wp d 41 33 [l0, l1, some (.int x), l3, l4] (.int x :: st) h Q := W_go f41_32 rfl
theorem f41_33 : fetch 41 33 = some (.invokestatic 41, 3, [42, 2, 0, 0, 2183, 1005, 2185, 2184], .null) := by decide +kernel
theorem w41_33 (hp : psum st ≤ 8) : Wp d 41 33 [l0, l1, l2, l3, l4] (v1 :: v0 :: st) h Q = Cp d 42 [v0, v1] h (fun o => cK o (fun w h2 => Wp d 41 36 [l0, l1, l2, l3, l4] (w.toList ++ st) h2 Q) (fun _ _ => False)) := (W_invS (st := st) f41_33 rfl rfl (by simp only [List.length_cons]; omega) rfl rfl hp)
theorem f41_36 : fetch 41 36 = some (.iload 4, 2, [], .null) := by decide +kernel
theorem w41_36 : Wp d 41 36 [l0, l1, l2, l3, some (.int x)] st h Q = Wp d 41 38 [l0, l1, l2, l3, some (.int x)] (.int x :: st) h Q := W_go f41_36 rfl
theorem f41_38 : fetch 41 38 = some (.invokevirtual 45, 3, [43, 4, 6, 0, 2190, 1005, 2193, 2192, 0], .null) := by decide +kernel
theorem w41_38 (hp : psum st ≤ 8) : Wp d 41 38 [l0, l1, l2, l3, l4] (v3 :: v2 :: v1 :: (.ref b) :: st) h Q = rP (h.2 b) 5 (Cp d 43 [(.ref b), v1, v2, v3] h (fun o => cK o (fun w h2 => Wp d 41 41 [l0, l1, l2, l3, l4] (w.toList ++ st) h2 Q) (fun E h2 => Q (.inr E, h2)))) := (W_invV (st := st) f41_38 rfl rfl (by simp only [List.length_cons]; omega) rfl rfl hp).trans (by simp only [hm41, if_true])
theorem f41_41 : fetch 41 41 = some (.istore_n 2, 1, [], .null) := by decide +kernel
theorem w41_41 : Wp d 41 41 [l0, l1, l2, l3, l4] (.int x :: st) h Q = Wp d 41 42 [l0, kl l1, some (.int x), l3, l4] st h Q := (W_st1 (pc' := 42) (k := 2) f41_41 rfl rfl (by simp only [List.length_cons, List.length_nil]; omega)).trans (by rw [pst1_succ]; rfl)
theorem f41_42 : fetch 41 42 = some (.iload 4, 2, [], .null) := by decide +kernel
theorem w41_42 : Wp d 41 42 [l0, l1, l2, l3, some (.int x)] st h Q = Wp d 41 44 [l0, l1, l2, l3, some (.int x)] (.int x :: st) h Q := W_go f41_42 rfl
theorem f41_44 : fetch 41 44 = some (.sipush 400, 3, [], .null) := by decide +kernel
theorem w41_44 : Wp d 41 44 [l0, l1, l2, l3, l4] st h Q = Wp d 41 47 [l0, l1, l2, l3, l4] (.int (400 : Int32) :: st) h Q := W_go f41_44 rfl
theorem f41_47 : fetch 41 47 = some (.if_icmp .ne 24, 3, [], .null) := by decide +kernel
theorem w41_47 : Wp d 41 47 [l0, l1, l2, l3, l4] (.int y :: .int x :: st) h Q = if icond .ne x y = true then Wp d 41 71 [l0, l1, l2, l3, l4] st h Q else Wp d 41 50 [l0, l1, l2, l3, l4] st h Q := W_if f41_47 rfl
theorem f41_50 : fetch 41 50 = some (.aload_n 0, 1, [], .null) := by decide +kernel
theorem w41_50 : Wp d 41 50 [some (.ref a), l1, l2, l3, l4] st h Q = Wp d 41 51 [some (.ref a), l1, l2, l3, l4] (.ref a :: st) h Q := W_go f41_50 rfl
theorem f41_51 : fetch 41 51 = some (.getfield 9, 3, [5, 0, 1208, 0], .null) := by decide +kernel
theorem w41_51 : Wp d 41 51 [l0, l1, l2, l3, l4] (.ref a :: st) h Q = gP (h.2 a) 5 0 (fun w => Wp d 41 54 [l0, l1, l2, l3, l4] (w :: st) h Q) := W_get f41_51 rfl
theorem f41_54 : fetch 41 54 = some (.iload 4, 2, [], .null) := by decide +kernel
theorem w41_54 : Wp d 41 54 [l0, l1, l2, l3, some (.int x)] st h Q = Wp d 41 56 [l0, l1, l2, l3, some (.int x)] (.int x :: st) h Q := W_go f41_54 rfl
theorem f41_56 : fetch 41 56 = some (.iaload, 1, [], .null) := by decide +kernel
theorem w41_56 : Wp d 41 56 [l0, l1, l2, l3, l4] (.int x :: .ref a :: st) h Q = aP false (h.2 a) x (fun w => Wp d 41 57 [l0, l1, l2, l3, l4] (.int w :: st) h Q) := W_ald f41_56 rfl
theorem f41_57 : fetch 41 57 = some (.bipush 31, 2, [], .null) := by decide +kernel
theorem w41_57 : Wp d 41 57 [l0, l1, l2, l3, l4] st h Q = Wp d 41 59 [l0, l1, l2, l3, l4] (.int (31 : Int32) :: st) h Q := W_go f41_57 rfl
theorem f41_59 : fetch 41 59 = some (.if_icmp .eq 12, 3, [], .null) := by decide +kernel
theorem w41_59 : Wp d 41 59 [l0, l1, l2, l3, l4] (.int y :: .int x :: st) h Q = if icond .eq x y = true then Wp d 41 71 [l0, l1, l2, l3, l4] st h Q else Wp d 41 62 [l0, l1, l2, l3, l4] st h Q := W_if f41_59 rfl
theorem f41_62 : fetch 41 62 = some (.aload_n 0, 1, [], .null) := by decide +kernel
theorem w41_62 : Wp d 41 62 [some (.ref a), l1, l2, l3, l4] st h Q = Wp d 41 63 [some (.ref a), l1, l2, l3, l4] (.ref a :: st) h Q := W_go f41_62 rfl
theorem f41_63 : fetch 41 63 = some (.getfield 9, 3, [5, 0, 1208, 0], .null) := by decide +kernel
theorem w41_63 : Wp d 41 63 [l0, l1, l2, l3, l4] (.ref a :: st) h Q = gP (h.2 a) 5 0 (fun w => Wp d 41 66 [l0, l1, l2, l3, l4] (w :: st) h Q) := W_get f41_63 rfl
theorem f41_66 : fetch 41 66 = some (.iload 4, 2, [], .null) := by decide +kernel
theorem w41_66 : Wp d 41 66 [l0, l1, l2, l3, some (.int x)] st h Q = Wp d 41 68 [l0, l1, l2, l3, some (.int x)] (.int x :: st) h Q := W_go f41_66 rfl
theorem f41_68 : fetch 41 68 = some (.bipush 32, 2, [], .null) := by decide +kernel
theorem w41_68 : Wp d 41 68 [l0, l1, l2, l3, l4] st h Q = Wp d 41 70 [l0, l1, l2, l3, l4] (.int (32 : Int32) :: st) h Q := W_go f41_68 rfl
theorem f41_70 : fetch 41 70 = some (.iastore, 1, [], .null) := by decide +kernel
theorem w41_70 : Wp d 41 70 [l0, l1, l2, l3, l4] (.int y :: .int x :: .ref a :: st) h Q = asP false (h.2 a) a x y (fun c => Wp d 41 71 [l0, l1, l2, l3, l4] st (hset h a c) Q) := W_ast f41_70 rfl
theorem f41_71 : fetch 41 71 = some (.aload_n 0, 1, [], .null) := by decide +kernel
theorem w41_71 : Wp d 41 71 [some (.ref a), l1, l2, l3, l4] st h Q = Wp d 41 72 [some (.ref a), l1, l2, l3, l4] (.ref a :: st) h Q := W_go f41_71 rfl
theorem f41_72 : fetch 41 72 = some (.getfield 9, 3, [5, 0, 1208, 0], .null) := by decide +kernel
theorem w41_72 : Wp d 41 72 [l0, l1, l2, l3, l4] (.ref a :: st) h Q = gP (h.2 a) 5 0 (fun w => Wp d 41 75 [l0, l1, l2, l3, l4] (w :: st) h Q) := W_get f41_72 rfl
theorem f41_75 : fetch 41 75 = some (.iload 4, 2, [], .null) := by decide +kernel
theorem w41_75 : Wp d 41 75 [l0, l1, l2, l3, some (.int x)] st h Q = Wp d 41 77 [l0, l1, l2, l3, some (.int x)] (.int x :: st) h Q := W_go f41_75 rfl
theorem f41_77 : fetch 41 77 = some (.iaload, 1, [], .null) := by decide +kernel
theorem w41_77 : Wp d 41 77 [l0, l1, l2, l3, l4] (.int x :: .ref a :: st) h Q = aP false (h.2 a) x (fun w => Wp d 41 78 [l0, l1, l2, l3, l4] (.int w :: st) h Q) := W_ald f41_77 rfl
theorem f41_78 : fetch 41 78 = some (.bipush 31, 2, [], .null) := by decide +kernel
theorem w41_78 : Wp d 41 78 [l0, l1, l2, l3, l4] st h Q = Wp d 41 80 [l0, l1, l2, l3, l4] (.int (31 : Int32) :: st) h Q := W_go f41_78 rfl
theorem f41_80 : fetch 41 80 = some (.if_icmp .eq 19, 3, [], .null) := by decide +kernel
theorem w41_80 : Wp d 41 80 [l0, l1, l2, l3, l4] (.int y :: .int x :: st) h Q = if icond .eq x y = true then Wp d 41 99 [l0, l1, l2, l3, l4] st h Q else Wp d 41 83 [l0, l1, l2, l3, l4] st h Q := W_if f41_80 rfl
theorem f41_83 : fetch 41 83 = some (.aload_n 0, 1, [], .null) := by decide +kernel
theorem w41_83 : Wp d 41 83 [some (.ref a), l1, l2, l3, l4] st h Q = Wp d 41 84 [some (.ref a), l1, l2, l3, l4] (.ref a :: st) h Q := W_go f41_83 rfl
theorem f41_84 : fetch 41 84 = some (.getfield 9, 3, [5, 0, 1208, 0], .null) := by decide +kernel
theorem w41_84 : Wp d 41 84 [l0, l1, l2, l3, l4] (.ref a :: st) h Q = gP (h.2 a) 5 0 (fun w => Wp d 41 87 [l0, l1, l2, l3, l4] (w :: st) h Q) := W_get f41_84 rfl
theorem f41_87 : fetch 41 87 = some (.iload 4, 2, [], .null) := by decide +kernel
theorem w41_87 : Wp d 41 87 [l0, l1, l2, l3, some (.int x)] st h Q = Wp d 41 89 [l0, l1, l2, l3, some (.int x)] (.int x :: st) h Q := W_go f41_87 rfl
theorem f41_89 : fetch 41 89 = some (.iaload, 1, [], .null) := by decide +kernel
theorem w41_89 : Wp d 41 89 [l0, l1, l2, l3, l4] (.int x :: .ref a :: st) h Q = aP false (h.2 a) x (fun w => Wp d 41 90 [l0, l1, l2, l3, l4] (.int w :: st) h Q) := W_ald f41_89 rfl
theorem f41_90 : fetch 41 90 = some (.bipush 32, 2, [], .null) := by decide +kernel
theorem w41_90 : Wp d 41 90 [l0, l1, l2, l3, l4] st h Q = Wp d 41 92 [l0, l1, l2, l3, l4] (.int (32 : Int32) :: st) h Q := W_go f41_90 rfl
theorem f41_92 : fetch 41 92 = some (.if_icmp .eq 7, 3, [], .null) := by decide +kernel
theorem w41_92 : Wp d 41 92 [l0, l1, l2, l3, l4] (.int y :: .int x :: st) h Q = if icond .eq x y = true then Wp d 41 99 [l0, l1, l2, l3, l4] st h Q else Wp d 41 95 [l0, l1, l2, l3, l4] st h Q := W_if f41_92 rfl
theorem f41_95 : fetch 41 95 = some (.iconst 1, 1, [], .null) := by decide +kernel
theorem w41_95 : Wp d 41 95 [l0, l1, l2, l3, l4] st h Q = Wp d 41 96 [l0, l1, l2, l3, l4] (.int (1 : Int32) :: st) h Q := W_go f41_95 rfl
theorem f41_96 : fetch 41 96 = some (.goto 4, 3, [], .null) := by decide +kernel
theorem w41_96 : Wp d 41 96 [l0, l1, l2, l3, l4] st h Q = Wp d 41 100 [l0, l1, l2, l3, l4] st h Q := W_go f41_96 rfl
theorem f41_99 : fetch 41 99 = some (.iconst 0, 1, [], .null) := by decide +kernel
theorem w41_99 : Wp d 41 99 [l0, l1, l2, l3, l4] st h Q = Wp d 41 100 [l0, l1, l2, l3, l4] (.int (0 : Int32) :: st) h Q := W_go f41_99 rfl
theorem f41_100 : fetch 41 100 = some (.istore_n 3, 1, [], .null) := by decide +kernel
theorem w41_100 : Wp d 41 100 [l0, l1, l2, l3, l4] (.int x :: st) h Q = Wp d 41 101 [l0, l1, kl l2, some (.int x), l4] st h Q := (W_st1 (pc' := 101) (k := 3) f41_100 rfl rfl (by simp only [List.length_cons, List.length_nil]; omega)).trans (by rw [pst1_succ]; rfl)
theorem f41_101 : fetch 41 101 = some (.iinc 4 1, 3, [], .null) := by decide +kernel
theorem w41_101 : Wp d 41 101 [l0, l1, l2, l3, some (.int x)] st h Q = Wp d 41 104 [l0, l1, l2, kl l3, some (.int (x + (1 : Int32)))] st h Q := (W_iinc (y := (1 : Int32)) f41_101 rfl (by simp only [List.length_cons, List.length_nil]; omega) (by decide)).trans (by rw [pst1_succ]; rfl)
theorem f41_104 : fetch 41 104 = some (.goto (-97), 3, [], .null) := by decide +kernel
theorem w41_104 : Wp d 41 104 [l0, l1, l2, l3, l4] st h Q = Wp d 41 7 [l0, l1, l2, l3, l4] st h Q := W_go f41_104 rfl
theorem f41_107 : fetch 41 107 = some (.return_, 1, [], .null) := by decide +kernel
theorem w41_107 : Wp d 41 107 [l0, l1, l2, l3, l4] [] h Q = Q (.inl none, h) := W_fin f41_107 rfl
theorem hm42 : mhs 42 = [] := by decide +kernel
theorem hr42 : mret 42 = (some .int) := by decide +kernel
theorem f42_0 : fetch 42 0 = some (.iload_n 1, 1, [], .null) := by decide +kernel
theorem w42_0 : Wp d 42 0 [l0, some (.int x), l2] st h Q = Wp d 42 1 [l0, some (.int x), l2] (.int x :: st) h Q := W_go f42_0 rfl
theorem f42_1 : fetch 42 1 = some (.istore_n 2, 1, [], .null) := by decide +kernel
theorem w42_1 : Wp d 42 1 [l0, l1, l2] (.int x :: st) h Q = Wp d 42 2 [l0, kl l1, some (.int x)] st h Q := (W_st1 (pc' := 2) (k := 2) f42_1 rfl rfl (by simp only [List.length_cons, List.length_nil]; omega)).trans (by rw [pst1_succ]; rfl)
theorem f42_2 : fetch 42 2 = some (.iload_n 2, 1, [], .null) := by decide +kernel
theorem w42_2 : Wp d 42 2 [l0, l1, some (.int x)] st h Q = Wp d 42 3 [l0, l1, some (.int x)] (.int x :: st) h Q := W_go f42_2 rfl
theorem f42_3 : fetch 42 3 = some (.sipush 1600, 3, [], .null) := by decide +kernel
theorem w42_3 : Wp d 42 3 [l0, l1, l2] st h Q = Wp d 42 6 [l0, l1, l2] (.int (1600 : Int32) :: st) h Q := W_go f42_3 rfl
theorem f42_6 : fetch 42 6 = some (.if_icmp .ge 29, 3, [], .null) := by decide +kernel
theorem w42_6 : Wp d 42 6 [l0, l1, l2] (.int y :: .int x :: st) h Q = if icond .ge x y = true then Wp d 42 35 [l0, l1, l2] st h Q else Wp d 42 9 [l0, l1, l2] st h Q := W_if f42_6 rfl
theorem f42_9 : fetch 42 9 = some (.aload_n 0, 1, [], .null) := by decide +kernel
theorem w42_9 : Wp d 42 9 [some (.ref a), l1, l2] st h Q = Wp d 42 10 [some (.ref a), l1, l2] (.ref a :: st) h Q := W_go f42_9 rfl
theorem f42_10 : fetch 42 10 = some (.iload_n 2, 1, [], .null) := by decide +kernel
theorem w42_10 : Wp d 42 10 [l0, l1, some (.int x)] st h Q = Wp d 42 11 [l0, l1, some (.int x)] (.int x :: st) h Q := W_go f42_10 rfl
theorem f42_11 : fetch 42 11 = some (.invokevirtual 49, 3, [39, 2, 5, 0, 2186, 1002, 2189, 2187, 2188], .null) := by decide +kernel
theorem w42_11 (hp : psum st ≤ 8) : Wp d 42 11 [l0, l1, l2] (v1 :: (.ref b) :: st) h Q = rP (h.2 b) 4 (Cp d 39 [(.ref b), v1] h (fun o => cK o (fun w h2 => Wp d 42 14 [l0, l1, l2] (w.toList ++ st) h2 Q) (fun E h2 => Q (.inr E, h2)))) := (W_invV (st := st) f42_11 rfl rfl (by simp only [List.length_cons]; omega) rfl rfl hp).trans (by simp only [hm42, if_true])
theorem f42_14 : fetch 42 14 = some (.bipush 32, 2, [], .null) := by decide +kernel
theorem w42_14 : Wp d 42 14 [l0, l1, l2] st h Q = Wp d 42 16 [l0, l1, l2] (.int (32 : Int32) :: st) h Q := W_go f42_14 rfl
theorem f42_16 : fetch 42 16 = some (.if_icmp .eq 13, 3, [], .null) := by decide +kernel
theorem w42_16 : Wp d 42 16 [l0, l1, l2] (.int y :: .int x :: st) h Q = if icond .eq x y = true then Wp d 42 29 [l0, l1, l2] st h Q else Wp d 42 19 [l0, l1, l2] st h Q := W_if f42_16 rfl
theorem f42_19 : fetch 42 19 = some (.aload_n 0, 1, [], .null) := by decide +kernel
theorem w42_19 : Wp d 42 19 [some (.ref a), l1, l2] st h Q = Wp d 42 20 [some (.ref a), l1, l2] (.ref a :: st) h Q := W_go f42_19 rfl
theorem f42_20 : fetch 42 20 = some (.iload_n 2, 1, [], .null) := by decide +kernel
theorem w42_20 : Wp d 42 20 [l0, l1, some (.int x)] st h Q = Wp d 42 21 [l0, l1, some (.int x)] (.int x :: st) h Q := W_go f42_20 rfl
theorem f42_21 : fetch 42 21 = some (.invokevirtual 49, 3, [39, 2, 5, 0, 2186, 1002, 2189, 2187, 2188], .null) := by decide +kernel
theorem w42_21 (hp : psum st ≤ 8) : Wp d 42 21 [l0, l1, l2] (v1 :: (.ref b) :: st) h Q = rP (h.2 b) 4 (Cp d 39 [(.ref b), v1] h (fun o => cK o (fun w h2 => Wp d 42 24 [l0, l1, l2] (w.toList ++ st) h2 Q) (fun E h2 => Q (.inr E, h2)))) := (W_invV (st := st) f42_21 rfl rfl (by simp only [List.length_cons]; omega) rfl rfl hp).trans (by simp only [hm42, if_true])
theorem f42_24 : fetch 42 24 = some (.bipush 10, 2, [], .null) := by decide +kernel
theorem w42_24 : Wp d 42 24 [l0, l1, l2] st h Q = Wp d 42 26 [l0, l1, l2] (.int (10 : Int32) :: st) h Q := W_go f42_24 rfl
theorem f42_26 : fetch 42 26 = some (.if_icmp .ne 9, 3, [], .null) := by decide +kernel
theorem w42_26 : Wp d 42 26 [l0, l1, l2] (.int y :: .int x :: st) h Q = if icond .ne x y = true then Wp d 42 35 [l0, l1, l2] st h Q else Wp d 42 29 [l0, l1, l2] st h Q := W_if f42_26 rfl
theorem f42_29 : fetch 42 29 = some (.iinc 2 1, 3, [], .null) := by decide +kernel
theorem w42_29 : Wp d 42 29 [l0, l1, some (.int x)] st h Q = Wp d 42 32 [l0, kl l1, some (.int (x + (1 : Int32)))] st h Q := (W_iinc (y := (1 : Int32)) f42_29 rfl (by simp only [List.length_cons, List.length_nil]; omega) (by decide)).trans (by rw [pst1_succ]; rfl)
theorem f42_32 : fetch 42 32 = some (.goto (-30), 3, [], .null) := by decide +kernel
theorem w42_32 : Wp d 42 32 [l0, l1, l2] st h Q = Wp d 42 2 [l0, l1, l2] st h Q := W_go f42_32 rfl
theorem f42_35 : fetch 42 35 = some (.iload_n 2, 1, [], .null) := by decide +kernel
theorem w42_35 : Wp d 42 35 [l0, l1, some (.int x)] st h Q = Wp d 42 36 [l0, l1, some (.int x)] (.int x :: st) h Q := W_go f42_35 rfl
theorem f42_36 : fetch 42 36 = some (.ireturn, 1, [], .null) := by decide +kernel
theorem w42_36 : Wp d 42 36 [l0, l1, l2] [.int x] h Q = Q (.inl (some (.int x)), h) := W_iret f42_36 hr42
theorem hm43 : mhs 43 = [] := by decide +kernel
theorem hr43 : mret 43 = (some .int) := by decide +kernel
theorem f43_0 : fetch 43 0 = some (.aload_n 1, 1, [], .null) := by decide +kernel
theorem w43_0 : Wp d 43 0 [l0, some (.ref a), l2, l3, l4, l5] st h Q = Wp d 43 1 [l0, some (.ref a), l2, l3, l4, l5] (.ref a :: st) h Q := W_go f43_0 rfl
theorem f43_1 : fetch 43 1 = some (.iload_n 2, 1, [], .null) := by decide +kernel
theorem w43_1 : Wp d 43 1 [l0, l1, some (.int x), l3, l4, l5] st h Q = Wp d 43 2 [l0, l1, some (.int x), l3, l4, l5] (.int x :: st) h Q := W_go f43_1 rfl
theorem f43_2 : fetch 43 2 = some (.invokevirtual 49, 3, [39, 2, 5, 0, 2186, 1002, 2189, 2187, 2188], .null) := by decide +kernel
theorem w43_2 (hp : psum st ≤ 8) : Wp d 43 2 [l0, l1, l2, l3, l4, l5] (v1 :: (.ref b) :: st) h Q = rP (h.2 b) 4 (Cp d 39 [(.ref b), v1] h (fun o => cK o (fun w h2 => Wp d 43 5 [l0, l1, l2, l3, l4, l5] (w.toList ++ st) h2 Q) (fun E h2 => Q (.inr E, h2)))) := (W_invV (st := st) f43_2 rfl rfl (by simp only [List.length_cons]; omega) rfl rfl hp).trans (by simp only [hm43, if_true])
theorem f43_5 : fetch 43 5 = some (.istore 4, 2, [], .null) := by decide +kernel
theorem w43_5 : Wp d 43 5 [l0, l1, l2, l3, l4, l5] (.int x :: st) h Q = Wp d 43 7 [l0, l1, l2, kl l3, some (.int x), l5] st h Q := (W_st1 (pc' := 7) (k := 4) f43_5 rfl rfl (by simp only [List.length_cons, List.length_nil]; omega)).trans (by rw [pst1_succ]; rfl)
theorem f43_7 : fetch 43 7 = some (.iload 4, 2, [], .null) := by decide +kernel
theorem w43_7 : Wp d 43 7 [l0, l1, l2, l3, some (.int x), l5] st h Q = Wp d 43 9 [l0, l1, l2, l3, some (.int x), l5] (.int x :: st) h Q := W_go f43_7 rfl
theorem f43_9 : fetch 43 9 = some (.invokestatic 55, 3, [49, 1, 0, 0, 2194, 1005, 2196, 2195], .null) := by decide +kernel
theorem w43_9 (hp : psum st ≤ 8) : Wp d 43 9 [l0, l1, l2, l3, l4, l5] (v0 :: st) h Q = Cp d 49 [v0] h (fun o => cK o (fun w h2 => Wp d 43 12 [l0, l1, l2, l3, l4, l5] (w.toList ++ st) h2 Q) (fun _ _ => False)) := (W_invS (st := st) f43_9 rfl rfl (by simp only [List.length_cons]; omega) rfl rfl hp)
theorem f43_12 : fetch 43 12 = some (.ifCond .eq 11, 3, [], .null) := by decide +kernel
theorem w43_12 : Wp d 43 12 [l0, l1, l2, l3, l4, l5] (.int x :: st) h Q = if icond .eq x 0 = true then Wp d 43 23 [l0, l1, l2, l3, l4, l5] st h Q else Wp d 43 15 [l0, l1, l2, l3, l4, l5] st h Q := W_if f43_12 rfl
theorem f43_15 : fetch 43 15 = some (.aload_n 0, 1, [], .null) := by decide +kernel
theorem w43_15 : Wp d 43 15 [some (.ref a), l1, l2, l3, l4, l5] st h Q = Wp d 43 16 [some (.ref a), l1, l2, l3, l4, l5] (.ref a :: st) h Q := W_go f43_15 rfl
theorem f43_16 : fetch 43 16 = some (.aload_n 1, 1, [], .null) := by decide +kernel
theorem w43_16 : Wp d 43 16 [l0, some (.ref a), l2, l3, l4, l5] st h Q = Wp d 43 17 [l0, some (.ref a), l2, l3, l4, l5] (.ref a :: st) h Q := W_go f43_16 rfl
theorem f43_17 : fetch 43 17 = some (.iload_n 2, 1, [], .null) := by decide +kernel
theorem w43_17 : Wp d 43 17 [l0, l1, some (.int x), l3, l4, l5] st h Q = Wp d 43 18 [l0, l1, some (.int x), l3, l4, l5] (.int x :: st) h Q := W_go f43_17 rfl
theorem f43_18 : fetch 43 18 = some (.iload_n 3, 1, [], .null) := by decide +kernel
theorem w43_18 : Wp d 43 18 [l0, l1, l2, some (.int x), l4, l5] st h Q = Wp d 43 19 [l0, l1, l2, some (.int x), l4, l5] (.int x :: st) h Q := W_go f43_18 rfl
theorem f43_19 : fetch 43 19 = some (.invokevirtual 59, 3, [44, 4, 6, 0, 2197, 1005, 2200, 2199, 1], .null) := by decide +kernel
theorem w43_19 (hp : psum st ≤ 8) : Wp d 43 19 [l0, l1, l2, l3, l4, l5] (v3 :: v2 :: v1 :: (.ref b) :: st) h Q = rP (h.2 b) 5 (Cp d 44 [(.ref b), v1, v2, v3] h (fun o => cK o (fun w h2 => Wp d 43 22 [l0, l1, l2, l3, l4, l5] (w.toList ++ st) h2 Q) (fun E h2 => Q (.inr E, h2)))) := (W_invV (st := st) f43_19 rfl rfl (by simp only [List.length_cons]; omega) rfl rfl hp).trans (by simp only [hm43, if_true])
theorem f43_22 : fetch 43 22 = some (.ireturn, 1, [], .null) := by decide +kernel
theorem w43_22 : Wp d 43 22 [l0, l1, l2, l3, l4, l5] [.int x] h Q = Q (.inl (some (.int x)), h) := W_iret f43_22 hr43
theorem f43_23 : fetch 43 23 = some (.iload 4, 2, [], .null) := by decide +kernel
theorem w43_23 : Wp d 43 23 [l0, l1, l2, l3, some (.int x), l5] st h Q = Wp d 43 25 [l0, l1, l2, l3, some (.int x), l5] (.int x :: st) h Q := W_go f43_23 rfl
theorem f43_25 : fetch 43 25 = some (.invokestatic 62, 3, [50, 1, 0, 0, 2215, 1005, 2217, 2216], .null) := by decide +kernel
theorem w43_25 (hp : psum st ≤ 8) : Wp d 43 25 [l0, l1, l2, l3, l4, l5] (v0 :: st) h Q = Cp d 50 [v0] h (fun o => cK o (fun w h2 => Wp d 43 28 [l0, l1, l2, l3, l4, l5] (w.toList ++ st) h2 Q) (fun _ _ => False)) := (W_invS (st := st) f43_25 rfl rfl (by simp only [List.length_cons]; omega) rfl rfl hp)
theorem f43_28 : fetch 43 28 = some (.ifCond .eq 11, 3, [], .null) := by decide +kernel
theorem w43_28 : Wp d 43 28 [l0, l1, l2, l3, l4, l5] (.int x :: st) h Q = if icond .eq x 0 = true then Wp d 43 39 [l0, l1, l2, l3, l4, l5] st h Q else Wp d 43 31 [l0, l1, l2, l3, l4, l5] st h Q := W_if f43_28 rfl
theorem f43_31 : fetch 43 31 = some (.aload_n 0, 1, [], .null) := by decide +kernel
theorem w43_31 : Wp d 43 31 [some (.ref a), l1, l2, l3, l4, l5] st h Q = Wp d 43 32 [some (.ref a), l1, l2, l3, l4, l5] (.ref a :: st) h Q := W_go f43_31 rfl
theorem f43_32 : fetch 43 32 = some (.aload_n 1, 1, [], .null) := by decide +kernel
theorem w43_32 : Wp d 43 32 [l0, some (.ref a), l2, l3, l4, l5] st h Q = Wp d 43 33 [l0, some (.ref a), l2, l3, l4, l5] (.ref a :: st) h Q := W_go f43_32 rfl
theorem f43_33 : fetch 43 33 = some (.iload_n 2, 1, [], .null) := by decide +kernel
theorem w43_33 : Wp d 43 33 [l0, l1, some (.int x), l3, l4, l5] st h Q = Wp d 43 34 [l0, l1, some (.int x), l3, l4, l5] (.int x :: st) h Q := W_go f43_33 rfl
theorem f43_34 : fetch 43 34 = some (.iload_n 3, 1, [], .null) := by decide +kernel
theorem w43_34 : Wp d 43 34 [l0, l1, l2, some (.int x), l4, l5] st h Q = Wp d 43 35 [l0, l1, l2, some (.int x), l4, l5] (.int x :: st) h Q := W_go f43_34 rfl
theorem f43_35 : fetch 43 35 = some (.invokevirtual 65, 3, [45, 4, 6, 0, 2218, 1005, 2221, 2220, 4], .null) := by decide +kernel
theorem w43_35 (hp : psum st ≤ 8) : Wp d 43 35 [l0, l1, l2, l3, l4, l5] (v3 :: v2 :: v1 :: (.ref b) :: st) h Q = rP (h.2 b) 5 (Cp d 45 [(.ref b), v1, v2, v3] h (fun o => cK o (fun w h2 => Wp d 43 38 [l0, l1, l2, l3, l4, l5] (w.toList ++ st) h2 Q) (fun E h2 => Q (.inr E, h2)))) := (W_invV (st := st) f43_35 rfl rfl (by simp only [List.length_cons]; omega) rfl rfl hp).trans (by simp only [hm43, if_true])
theorem f43_38 : fetch 43 38 = some (.ireturn, 1, [], .null) := by decide +kernel
theorem w43_38 : Wp d 43 38 [l0, l1, l2, l3, l4, l5] [.int x] h Q = Q (.inl (some (.int x)), h) := W_iret f43_38 hr43
theorem f43_39 : fetch 43 39 = some (.iload 4, 2, [], .null) := by decide +kernel
theorem w43_39 : Wp d 43 39 [l0, l1, l2, l3, some (.int x), l5] st h Q = Wp d 43 41 [l0, l1, l2, l3, some (.int x), l5] (.int x :: st) h Q := W_go f43_39 rfl
theorem f43_41 : fetch 43 41 = some (.iconst (-1), 1, [], .null) := by decide +kernel
theorem w43_41 : Wp d 43 41 [l0, l1, l2, l3, l4, l5] st h Q = Wp d 43 42 [l0, l1, l2, l3, l4, l5] (.int (-1 : Int32) :: st) h Q := W_go f43_41 rfl
theorem f43_42 : fetch 43 42 = some (.if_icmp .ne 14, 3, [], .null) := by decide +kernel
theorem w43_42 : Wp d 43 42 [l0, l1, l2, l3, l4, l5] (.int y :: .int x :: st) h Q = if icond .ne x y = true then Wp d 43 56 [l0, l1, l2, l3, l4, l5] st h Q else Wp d 43 45 [l0, l1, l2, l3, l4, l5] st h Q := W_if f43_42 rfl
theorem f43_45 : fetch 43 45 = some (.aload_n 0, 1, [], .null) := by decide +kernel
theorem w43_45 : Wp d 43 45 [some (.ref a), l1, l2, l3, l4, l5] st h Q = Wp d 43 46 [some (.ref a), l1, l2, l3, l4, l5] (.ref a :: st) h Q := W_go f43_45 rfl
theorem f43_46 : fetch 43 46 = some (.iload_n 3, 1, [], .null) := by decide +kernel
theorem w43_46 : Wp d 43 46 [l0, l1, l2, some (.int x), l4, l5] st h Q = Wp d 43 47 [l0, l1, l2, some (.int x), l4, l5] (.int x :: st) h Q := W_go f43_46 rfl
theorem f43_47 : fetch 43 47 = some (.bipush 31, 2, [], .null) := by decide +kernel
theorem w43_47 : Wp d 43 47 [l0, l1, l2, l3, l4, l5] st h Q = Wp d 43 49 [l0, l1, l2, l3, l4, l5] (.int (31 : Int32) :: st) h Q := W_go f43_47 rfl
theorem f43_49 : fetch 43 49 = some (.iload_n 2, 1, [], .null) := by decide +kernel
theorem w43_49 : Wp d 43 49 [l0, l1, some (.int x), l3, l4, l5] st h Q = Wp d 43 50 [l0, l1, some (.int x), l3, l4, l5] (.int x :: st) h Q := W_go f43_49 rfl
theorem f43_50 : fetch 43 50 = some (.lconst 0, 1, [], .null) := by decide +kernel
theorem w43_50 : Wp d 43 50 [l0, l1, l2, l3, l4, l5] st h Q = Wp d 43 51 [l0, l1, l2, l3, l4, l5] (.long (0 : Int64) :: st) h Q := W_go f43_50 rfl
theorem f43_51 : fetch 43 51 = some (.invokevirtual 68, 3, [46, 5, 6, 0, 2205, 1005, 2208, 2207, 3], .null) := by decide +kernel
theorem w43_51 (hp : psum st ≤ 8) : Wp d 43 51 [l0, l1, l2, l3, l4, l5] (v4 :: v3 :: v2 :: v1 :: (.ref b) :: st) h Q = rP (h.2 b) 5 (Cp d 46 [(.ref b), v1, v2, v3, v4] h (fun o => cK o (fun w h2 => Wp d 43 54 [l0, l1, l2, l3, l4, l5] (w.toList ++ st) h2 Q) (fun E h2 => Q (.inr E, h2)))) := (W_invV (st := st) f43_51 rfl rfl (by simp only [List.length_cons]; omega) rfl rfl hp).trans (by simp only [hm43, if_true])
theorem f43_54 : fetch 43 54 = some (.iload_n 2, 1, [], .null) := by decide +kernel
theorem w43_54 : Wp d 43 54 [l0, l1, some (.int x), l3, l4, l5] st h Q = Wp d 43 55 [l0, l1, some (.int x), l3, l4, l5] (.int x :: st) h Q := W_go f43_54 rfl
theorem f43_55 : fetch 43 55 = some (.ireturn, 1, [], .null) := by decide +kernel
theorem w43_55 : Wp d 43 55 [l0, l1, l2, l3, l4, l5] [.int x] h Q = Q (.inl (some (.int x)), h) := W_iret f43_55 hr43
theorem f43_56 : fetch 43 56 = some (.ldc 72, 2, [2224], .ref 2) := by decide +kernel
theorem w43_56 : Wp d 43 56 [l0, l1, l2, l3, l4, l5] st h Q = Wp d 43 58 [l0, l1, l2, l3, l4, l5] ((.ref 2) :: st) h Q := W_go f43_56 rfl
theorem f43_58 : fetch 43 58 = some (.iload 4, 2, [], .null) := by decide +kernel
theorem w43_58 : Wp d 43 58 [l0, l1, l2, l3, some (.int x), l5] st h Q = Wp d 43 60 [l0, l1, l2, l3, some (.int x), l5] (.int x :: st) h Q := W_go f43_58 rfl
theorem f43_60 : fetch 43 60 = some (.i2c, 1, [], .null) := by decide +kernel
theorem w43_60 : Wp d 43 60 [l0, l1, l2, l3, l4, l5] (.int x :: st) h Q = Wp d 43 61 [l0, l1, l2, l3, l4, l5] (.int (x.toUInt32 % 65536).toInt32 :: st) h Q := W_go f43_60 rfl
theorem f43_61 : fetch 43 61 = some (.invokevirtual 74, 3, [231, 2, 12, 0, 2225, 1006, 2228, 2226, 2227], .null) := by decide +kernel
theorem w43_61 (hp : psum st ≤ 8) : Wp d 43 61 [l0, l1, l2, l3, l4, l5] (v1 :: (.ref b) :: st) h Q = rP (h.2 b) 11 (Cp d 231 [(.ref b), v1] h (fun o => cK o (fun w h2 => Wp d 43 64 [l0, l1, l2, l3, l4, l5] (w.toList ++ st) h2 Q) (fun E h2 => Q (.inr E, h2)))) := (W_invV (st := st) f43_61 rfl rfl (by simp only [List.length_cons]; omega) rfl rfl hp).trans (by simp only [hm43, if_true])
theorem f43_64 : fetch 43 64 = some (.istore 5, 2, [], .null) := by decide +kernel
theorem w43_64 : Wp d 43 64 [l0, l1, l2, l3, l4, l5] (.int x :: st) h Q = Wp d 43 66 [l0, l1, l2, l3, kl l4, some (.int x)] st h Q := (W_st1 (pc' := 66) (k := 5) f43_64 rfl rfl (by simp only [List.length_cons, List.length_nil]; omega)).trans (by rw [pst1_succ]; rfl)
theorem f43_66 : fetch 43 66 = some (.aload_n 0, 1, [], .null) := by decide +kernel
theorem w43_66 : Wp d 43 66 [some (.ref a), l1, l2, l3, l4, l5] st h Q = Wp d 43 67 [some (.ref a), l1, l2, l3, l4, l5] (.ref a :: st) h Q := W_go f43_66 rfl
theorem f43_67 : fetch 43 67 = some (.iload_n 3, 1, [], .null) := by decide +kernel
theorem w43_67 : Wp d 43 67 [l0, l1, l2, some (.int x), l4, l5] st h Q = Wp d 43 68 [l0, l1, l2, some (.int x), l4, l5] (.int x :: st) h Q := W_go f43_67 rfl
theorem f43_68 : fetch 43 68 = some (.iload 5, 2, [], .null) := by decide +kernel
theorem w43_68 : Wp d 43 68 [l0, l1, l2, l3, l4, some (.int x)] st h Q = Wp d 43 70 [l0, l1, l2, l3, l4, some (.int x)] (.int x :: st) h Q := W_go f43_68 rfl
theorem f43_70 : fetch 43 70 = some (.ifCond .ge 8, 3, [], .null) := by decide +kernel
theorem w43_70 : Wp d 43 70 [l0, l1, l2, l3, l4, l5] (.int x :: st) h Q = if icond .ge x 0 = true then Wp d 43 78 [l0, l1, l2, l3, l4, l5] st h Q else Wp d 43 73 [l0, l1, l2, l3, l4, l5] st h Q := W_if f43_70 rfl
theorem f43_73 : fetch 43 73 = some (.bipush 32, 2, [], .null) := by decide +kernel
theorem w43_73 : Wp d 43 73 [l0, l1, l2, l3, l4, l5] st h Q = Wp d 43 75 [l0, l1, l2, l3, l4, l5] (.int (32 : Int32) :: st) h Q := W_go f43_73 rfl
theorem f43_75 : fetch 43 75 = some (.goto 8, 3, [], .null) := by decide +kernel
theorem w43_75 : Wp d 43 75 [l0, l1, l2, l3, l4, l5] st h Q = Wp d 43 83 [l0, l1, l2, l3, l4, l5] st h Q := W_go f43_75 rfl
theorem f43_78 : fetch 43 78 = some (.bipush 25, 2, [], .null) := by decide +kernel
theorem w43_78 : Wp d 43 78 [l0, l1, l2, l3, l4, l5] st h Q = Wp d 43 80 [l0, l1, l2, l3, l4, l5] (.int (25 : Int32) :: st) h Q := W_go f43_78 rfl
theorem f43_80 : fetch 43 80 = some (.iload 5, 2, [], .null) := by decide +kernel
theorem w43_80 : Wp d 43 80 [l0, l1, l2, l3, l4, some (.int x)] st h Q = Wp d 43 82 [l0, l1, l2, l3, l4, some (.int x)] (.int x :: st) h Q := W_go f43_80 rfl
theorem f43_82 : fetch 43 82 = some (.iadd, 1, [], .null) := by decide +kernel
theorem w43_82 : Wp d 43 82 [l0, l1, l2, l3, l4, l5] (.int y :: .int x :: st) h Q = Wp d 43 83 [l0, l1, l2, l3, l4, l5] (.int (x + y) :: st) h Q := W_go f43_82 rfl
theorem f43_83 : fetch 43 83 = some (.iload_n 2, 1, [], .null) := by decide +kernel
theorem w43_83 : Wp d 43 83 [l0, l1, some (.int x), l3, l4, l5] st h Q = Wp d 43 84 [l0, l1, some (.int x), l3, l4, l5] (.int x :: st) h Q := W_go f43_83 rfl
theorem f43_84 : fetch 43 84 = some (.lconst 0, 1, [], .null) := by decide +kernel
theorem w43_84 : Wp d 43 84 [l0, l1, l2, l3, l4, l5] st h Q = Wp d 43 85 [l0, l1, l2, l3, l4, l5] (.long (0 : Int64) :: st) h Q := W_go f43_84 rfl
theorem f43_85 : fetch 43 85 = some (.invokevirtual 68, 3, [46, 5, 6, 0, 2205, 1005, 2208, 2207, 3], .null) := by decide +kernel
theorem w43_85 (hp : psum st ≤ 8) : Wp d 43 85 [l0, l1, l2, l3, l4, l5] (v4 :: v3 :: v2 :: v1 :: (.ref b) :: st) h Q = rP (h.2 b) 5 (Cp d 46 [(.ref b), v1, v2, v3, v4] h (fun o => cK o (fun w h2 => Wp d 43 88 [l0, l1, l2, l3, l4, l5] (w.toList ++ st) h2 Q) (fun E h2 => Q (.inr E, h2)))) := (W_invV (st := st) f43_85 rfl rfl (by simp only [List.length_cons]; omega) rfl rfl hp).trans (by simp only [hm43, if_true])
theorem f43_88 : fetch 43 88 = some (.iload_n 2, 1, [], .null) := by decide +kernel
theorem w43_88 : Wp d 43 88 [l0, l1, some (.int x), l3, l4, l5] st h Q = Wp d 43 89 [l0, l1, some (.int x), l3, l4, l5] (.int x :: st) h Q := W_go f43_88 rfl
theorem f43_89 : fetch 43 89 = some (.iconst 1, 1, [], .null) := by decide +kernel
theorem w43_89 : Wp d 43 89 [l0, l1, l2, l3, l4, l5] st h Q = Wp d 43 90 [l0, l1, l2, l3, l4, l5] (.int (1 : Int32) :: st) h Q := W_go f43_89 rfl
theorem f43_90 : fetch 43 90 = some (.iadd, 1, [], .null) := by decide +kernel
theorem w43_90 : Wp d 43 90 [l0, l1, l2, l3, l4, l5] (.int y :: .int x :: st) h Q = Wp d 43 91 [l0, l1, l2, l3, l4, l5] (.int (x + y) :: st) h Q := W_go f43_90 rfl
theorem f43_91 : fetch 43 91 = some (.ireturn, 1, [], .null) := by decide +kernel
theorem w43_91 : Wp d 43 91 [l0, l1, l2, l3, l4, l5] [.int x] h Q = Q (.inl (some (.int x)), h) := W_iret f43_91 hr43
theorem hm44 : mhs 44 = [] := by decide +kernel
theorem hr44 : mret 44 = (some .int) := by decide +kernel
theorem f44_0 : fetch 44 0 = some (.iload_n 2, 1, [], .null) := by decide +kernel
theorem w44_0 : Wp d 44 0 [l0, l1, some (.int x), l3, l4, l5, l6] st h Q = Wp d 44 1 [l0, l1, some (.int x), l3, l4, l5, l6] (.int x :: st) h Q := W_go f44_0 rfl
theorem f44_1 : fetch 44 1 = some (.istore 4, 2, [], .null) := by decide +kernel
theorem w44_1 : Wp d 44 1 [l0, l1, l2, l3, l4, l5, l6] (.int x :: st) h Q = Wp d 44 3 [l0, l1, l2, kl l3, some (.int x), l5, l6] st h Q := (W_st1 (pc' := 3) (k := 4) f44_1 rfl rfl (by simp only [List.length_cons, List.length_nil]; omega)).trans (by rw [pst1_succ]; rfl)
theorem f44_3 : fetch 44 3 = some (.lconst 0, 1, [], .null) := by decide +kernel
theorem w44_3 : Wp d 44 3 [l0, l1, l2, l3, l4, l5, l6] st h Q = Wp d 44 4 [l0, l1, l2, l3, l4, l5, l6] (.long (0 : Int64) :: st) h Q := W_go f44_3 rfl
theorem f44_4 : fetch 44 4 = some (.lstore 5, 2, [], .null) := by decide +kernel
theorem w44_4 : Wp d 44 4 [l0, l1, l2, l3, l4, l5, l6] (.long x8 :: st) h Q = Wp d 44 6 [l0, l1, l2, l3, kl l4, some (.long x8), none] st h Q := (W_st2 (pc' := 6) (k := 5) f44_4 rfl rfl (by simp only [List.length_cons, List.length_nil]; omega)).trans (by rw [pst2_succ]; rfl)
theorem f44_6 : fetch 44 6 = some (.iload 4, 2, [], .null) := by decide +kernel
theorem w44_6 : Wp d 44 6 [l0, l1, l2, l3, some (.int x), l5, l6] st h Q = Wp d 44 8 [l0, l1, l2, l3, some (.int x), l5, l6] (.int x :: st) h Q := W_go f44_6 rfl
theorem f44_8 : fetch 44 8 = some (.sipush 1600, 3, [], .null) := by decide +kernel
theorem w44_8 : Wp d 44 8 [l0, l1, l2, l3, l4, l5, l6] st h Q = Wp d 44 11 [l0, l1, l2, l3, l4, l5, l6] (.int (1600 : Int32) :: st) h Q := W_go f44_8 rfl
theorem f44_11 : fetch 44 11 = some (.if_icmp .ge 34, 3, [], .null) := by decide +kernel
theorem w44_11 : Wp d 44 11 [l0, l1, l2, l3, l4, l5, l6] (.int y :: .int x :: st) h Q = if icond .ge x y = true then Wp d 44 45 [l0, l1, l2, l3, l4, l5, l6] st h Q else Wp d 44 14 [l0, l1, l2, l3, l4, l5, l6] st h Q := W_if f44_11 rfl
theorem f44_14 : fetch 44 14 = some (.aload_n 1, 1, [], .null) := by decide +kernel
theorem w44_14 : Wp d 44 14 [l0, some (.ref a), l2, l3, l4, l5, l6] st h Q = Wp d 44 15 [l0, some (.ref a), l2, l3, l4, l5, l6] (.ref a :: st) h Q := W_go f44_14 rfl
theorem f44_15 : fetch 44 15 = some (.iload 4, 2, [], .null) := by decide +kernel
theorem w44_15 : Wp d 44 15 [l0, l1, l2, l3, some (.int x), l5, l6] st h Q = Wp d 44 17 [l0, l1, l2, l3, some (.int x), l5, l6] (.int x :: st) h Q := W_go f44_15 rfl
theorem f44_17 : fetch 44 17 = some (.invokevirtual 49, 3, [39, 2, 5, 0, 2186, 1002, 2189, 2187, 2188], .null) := by decide +kernel
theorem w44_17 (hp : psum st ≤ 8) : Wp d 44 17 [l0, l1, l2, l3, l4, l5, l6] (v1 :: (.ref b) :: st) h Q = rP (h.2 b) 4 (Cp d 39 [(.ref b), v1] h (fun o => cK o (fun w h2 => Wp d 44 20 [l0, l1, l2, l3, l4, l5, l6] (w.toList ++ st) h2 Q) (fun E h2 => Q (.inr E, h2)))) := (W_invV (st := st) f44_17 rfl rfl (by simp only [List.length_cons]; omega) rfl rfl hp).trans (by simp only [hm44, if_true])
theorem f44_20 : fetch 44 20 = some (.invokestatic 55, 3, [49, 1, 0, 0, 2194, 1005, 2196, 2195], .null) := by decide +kernel
theorem w44_20 (hp : psum st ≤ 8) : Wp d 44 20 [l0, l1, l2, l3, l4, l5, l6] (v0 :: st) h Q = Cp d 49 [v0] h (fun o => cK o (fun w h2 => Wp d 44 23 [l0, l1, l2, l3, l4, l5, l6] (w.toList ++ st) h2 Q) (fun _ _ => False)) := (W_invS (st := st) f44_20 rfl rfl (by simp only [List.length_cons]; omega) rfl rfl hp)
theorem f44_23 : fetch 44 23 = some (.ifCond .eq 22, 3, [], .null) := by decide +kernel
theorem w44_23 : Wp d 44 23 [l0, l1, l2, l3, l4, l5, l6] (.int x :: st) h Q = if icond .eq x 0 = true then Wp d 44 45 [l0, l1, l2, l3, l4, l5, l6] st h Q else Wp d 44 26 [l0, l1, l2, l3, l4, l5, l6] st h Q := W_if f44_23 rfl
theorem f44_26 : fetch 44 26 = some (.lload 5, 2, [], .null) := by decide +kernel
theorem w44_26 : Wp d 44 26 [l0, l1, l2, l3, l4, some (.long x8), l6] st h Q = Wp d 44 28 [l0, l1, l2, l3, l4, some (.long x8), l6] (.long x8 :: st) h Q := W_go f44_26 rfl
theorem f44_28 : fetch 44 28 = some (.aload_n 1, 1, [], .null) := by decide +kernel
theorem w44_28 : Wp d 44 28 [l0, some (.ref a), l2, l3, l4, l5, l6] st h Q = Wp d 44 29 [l0, some (.ref a), l2, l3, l4, l5, l6] (.ref a :: st) h Q := W_go f44_28 rfl
theorem f44_29 : fetch 44 29 = some (.iload 4, 2, [], .null) := by decide +kernel
theorem w44_29 : Wp d 44 29 [l0, l1, l2, l3, some (.int x), l5, l6] st h Q = Wp d 44 31 [l0, l1, l2, l3, some (.int x), l5, l6] (.int x :: st) h Q := W_go f44_29 rfl
theorem f44_31 : fetch 44 31 = some (.invokevirtual 49, 3, [39, 2, 5, 0, 2186, 1002, 2189, 2187, 2188], .null) := by decide +kernel
theorem w44_31 (hp : psum st ≤ 8) : Wp d 44 31 [l0, l1, l2, l3, l4, l5, l6] (v1 :: (.ref b) :: st) h Q = rP (h.2 b) 4 (Cp d 39 [(.ref b), v1] h (fun o => cK o (fun w h2 => Wp d 44 34 [l0, l1, l2, l3, l4, l5, l6] (w.toList ++ st) h2 Q) (fun E h2 => Q (.inr E, h2)))) := (W_invV (st := st) f44_31 rfl rfl (by simp only [List.length_cons]; omega) rfl rfl hp).trans (by simp only [hm44, if_true])
theorem f44_34 : fetch 44 34 = some (.invokestatic 37, 3, [48, 2, 0, 0, 1203, 1005, 1205, 1204], .null) := by decide +kernel
theorem w44_34 (hp : psum st ≤ 8) : Wp d 44 34 [l0, l1, l2, l3, l4, l5, l6] (v1 :: v0 :: st) h Q = Cp d 48 [v0, v1] h (fun o => cK o (fun w h2 => Wp d 44 37 [l0, l1, l2, l3, l4, l5, l6] (w.toList ++ st) h2 Q) (fun _ _ => False)) := (W_invS (st := st) f44_34 rfl rfl (by simp only [List.length_cons]; omega) rfl rfl hp)
theorem f44_37 : fetch 44 37 = some (.lstore 5, 2, [], .null) := by decide +kernel
theorem w44_37 : Wp d 44 37 [l0, l1, l2, l3, l4, l5, l6] (.long x8 :: st) h Q = Wp d 44 39 [l0, l1, l2, l3, kl l4, some (.long x8), none] st h Q := (W_st2 (pc' := 39) (k := 5) f44_37 rfl rfl (by simp only [List.length_cons, List.length_nil]; omega)).trans (by rw [pst2_succ]; rfl)
theorem f44_39 : fetch 44 39 = some (.iinc 4 1, 3, [], .null) := by decide +kernel
theorem w44_39 : Wp d 44 39 [l0, l1, l2, l3, some (.int x), l5, l6] st h Q = Wp d 44 42 [l0, l1, l2, kl l3, some (.int (x + (1 : Int32))), l5, l6] st h Q := (W_iinc (y := (1 : Int32)) f44_39 rfl (by simp only [List.length_cons, List.length_nil]; omega) (by decide)).trans (by rw [pst1_succ]; rfl)
theorem f44_42 : fetch 44 42 = some (.goto (-36), 3, [], .null) := by decide +kernel
theorem w44_42 : Wp d 44 42 [l0, l1, l2, l3, l4, l5, l6] st h Q = Wp d 44 6 [l0, l1, l2, l3, l4, l5, l6] st h Q := W_go f44_42 rfl
theorem f44_45 : fetch 44 45 = some (.aload_n 0, 1, [], .null) := by decide +kernel
theorem w44_45 : Wp d 44 45 [some (.ref a), l1, l2, l3, l4, l5, l6] st h Q = Wp d 44 46 [some (.ref a), l1, l2, l3, l4, l5, l6] (.ref a :: st) h Q := W_go f44_45 rfl
theorem f44_46 : fetch 44 46 = some (.iload_n 3, 1, [], .null) := by decide +kernel
theorem w44_46 : Wp d 44 46 [l0, l1, l2, some (.int x), l4, l5, l6] st h Q = Wp d 44 47 [l0, l1, l2, some (.int x), l4, l5, l6] (.int x :: st) h Q := W_go f44_46 rfl
theorem f44_47 : fetch 44 47 = some (.iload 4, 2, [], .null) := by decide +kernel
theorem w44_47 : Wp d 44 47 [l0, l1, l2, l3, some (.int x), l5, l6] st h Q = Wp d 44 49 [l0, l1, l2, l3, some (.int x), l5, l6] (.int x :: st) h Q := W_go f44_47 rfl
theorem f44_49 : fetch 44 49 = some (.iload_n 2, 1, [], .null) := by decide +kernel
theorem w44_49 : Wp d 44 49 [l0, l1, some (.int x), l3, l4, l5, l6] st h Q = Wp d 44 50 [l0, l1, some (.int x), l3, l4, l5, l6] (.int x :: st) h Q := W_go f44_49 rfl
theorem f44_50 : fetch 44 50 = some (.isub, 1, [], .null) := by decide +kernel
theorem w44_50 : Wp d 44 50 [l0, l1, l2, l3, l4, l5, l6] (.int y :: .int x :: st) h Q = Wp d 44 51 [l0, l1, l2, l3, l4, l5, l6] (.int (x - y) :: st) h Q := W_go f44_50 rfl
theorem f44_51 : fetch 44 51 = some (.bipush 8, 2, [], .null) := by decide +kernel
theorem w44_51 : Wp d 44 51 [l0, l1, l2, l3, l4, l5, l6] st h Q = Wp d 44 53 [l0, l1, l2, l3, l4, l5, l6] (.int (8 : Int32) :: st) h Q := W_go f44_51 rfl
theorem f44_53 : fetch 44 53 = some (.if_icmp .le 8, 3, [], .null) := by decide +kernel
theorem w44_53 : Wp d 44 53 [l0, l1, l2, l3, l4, l5, l6] (.int y :: .int x :: st) h Q = if icond .le x y = true then Wp d 44 61 [l0, l1, l2, l3, l4, l5, l6] st h Q else Wp d 44 56 [l0, l1, l2, l3, l4, l5, l6] st h Q := W_if f44_53 rfl
theorem f44_56 : fetch 44 56 = some (.bipush 32, 2, [], .null) := by decide +kernel
theorem w44_56 : Wp d 44 56 [l0, l1, l2, l3, l4, l5, l6] st h Q = Wp d 44 58 [l0, l1, l2, l3, l4, l5, l6] (.int (32 : Int32) :: st) h Q := W_go f44_56 rfl
theorem f44_58 : fetch 44 58 = some (.goto 9, 3, [], .null) := by decide +kernel
theorem w44_58 : Wp d 44 58 [l0, l1, l2, l3, l4, l5, l6] st h Q = Wp d 44 67 [l0, l1, l2, l3, l4, l5, l6] st h Q := W_go f44_58 rfl
theorem f44_61 : fetch 44 61 = some (.aload_n 0, 1, [], .null) := by decide +kernel
theorem w44_61 : Wp d 44 61 [some (.ref a), l1, l2, l3, l4, l5, l6] st h Q = Wp d 44 62 [some (.ref a), l1, l2, l3, l4, l5, l6] (.ref a :: st) h Q := W_go f44_61 rfl
theorem f44_62 : fetch 44 62 = some (.lload 5, 2, [], .null) := by decide +kernel
theorem w44_62 : Wp d 44 62 [l0, l1, l2, l3, l4, some (.long x8), l6] st h Q = Wp d 44 64 [l0, l1, l2, l3, l4, some (.long x8), l6] (.long x8 :: st) h Q := W_go f44_62 rfl
theorem f44_64 : fetch 44 64 = some (.invokevirtual 77, 3, [47, 2, 6, 0, 2201, 1005, 2204, 2203, 2], .null) := by decide +kernel
theorem w44_64 (hp : psum st ≤ 8) : Wp d 44 64 [l0, l1, l2, l3, l4, l5, l6] (v1 :: (.ref b) :: st) h Q = rP (h.2 b) 5 (Cp d 47 [(.ref b), v1] h (fun o => cK o (fun w h2 => Wp d 44 67 [l0, l1, l2, l3, l4, l5, l6] (w.toList ++ st) h2 Q) (fun E h2 => Q (.inr E, h2)))) := (W_invV (st := st) f44_64 rfl rfl (by simp only [List.length_cons]; omega) rfl rfl hp).trans (by simp only [hm44, if_true])
theorem f44_67 : fetch 44 67 = some (.iload_n 2, 1, [], .null) := by decide +kernel
theorem w44_67 : Wp d 44 67 [l0, l1, some (.int x), l3, l4, l5, l6] st h Q = Wp d 44 68 [l0, l1, some (.int x), l3, l4, l5, l6] (.int x :: st) h Q := W_go f44_67 rfl
theorem f44_68 : fetch 44 68 = some (.lload 5, 2, [], .null) := by decide +kernel
theorem w44_68 : Wp d 44 68 [l0, l1, l2, l3, l4, some (.long x8), l6] st h Q = Wp d 44 70 [l0, l1, l2, l3, l4, some (.long x8), l6] (.long x8 :: st) h Q := W_go f44_68 rfl
theorem f44_70 : fetch 44 70 = some (.invokevirtual 68, 3, [46, 5, 6, 0, 2205, 1005, 2208, 2207, 3], .null) := by decide +kernel
theorem w44_70 (hp : psum st ≤ 8) : Wp d 44 70 [l0, l1, l2, l3, l4, l5, l6] (v4 :: v3 :: v2 :: v1 :: (.ref b) :: st) h Q = rP (h.2 b) 5 (Cp d 46 [(.ref b), v1, v2, v3, v4] h (fun o => cK o (fun w h2 => Wp d 44 73 [l0, l1, l2, l3, l4, l5, l6] (w.toList ++ st) h2 Q) (fun E h2 => Q (.inr E, h2)))) := (W_invV (st := st) f44_70 rfl rfl (by simp only [List.length_cons]; omega) rfl rfl hp).trans (by simp only [hm44, if_true])
theorem f44_73 : fetch 44 73 = some (.iload 4, 2, [], .null) := by decide +kernel
theorem w44_73 : Wp d 44 73 [l0, l1, l2, l3, some (.int x), l5, l6] st h Q = Wp d 44 75 [l0, l1, l2, l3, some (.int x), l5, l6] (.int x :: st) h Q := W_go f44_73 rfl
theorem f44_75 : fetch 44 75 = some (.ireturn, 1, [], .null) := by decide +kernel
theorem w44_75 : Wp d 44 75 [l0, l1, l2, l3, l4, l5, l6] [.int x] h Q = Q (.inl (some (.int x)), h) := W_iret f44_75 hr44
theorem hm45 : mhs 45 = [] := by decide +kernel
theorem hr45 : mret 45 = (some .int) := by decide +kernel
theorem f45_0 : fetch 45 0 = some (.iload_n 2, 1, [], .null) := by decide +kernel
theorem w45_0 : Wp d 45 0 [l0, l1, some (.int x), l3, l4, l5, l6] st h Q = Wp d 45 1 [l0, l1, some (.int x), l3, l4, l5, l6] (.int x :: st) h Q := W_go f45_0 rfl
theorem f45_1 : fetch 45 1 = some (.istore 4, 2, [], .null) := by decide +kernel
theorem w45_1 : Wp d 45 1 [l0, l1, l2, l3, l4, l5, l6] (.int x :: st) h Q = Wp d 45 3 [l0, l1, l2, kl l3, some (.int x), l5, l6] st h Q := (W_st1 (pc' := 3) (k := 4) f45_1 rfl rfl (by simp only [List.length_cons, List.length_nil]; omega)).trans (by rw [pst1_succ]; rfl)
theorem f45_3 : fetch 45 3 = some (.lconst 0, 1, [], .null) := by decide +kernel
theorem w45_3 : Wp d 45 3 [l0, l1, l2, l3, l4, l5, l6] st h Q = Wp d 45 4 [l0, l1, l2, l3, l4, l5, l6] (.long (0 : Int64) :: st) h Q := W_go f45_3 rfl
theorem f45_4 : fetch 45 4 = some (.lstore 5, 2, [], .null) := by decide +kernel
theorem w45_4 : Wp d 45 4 [l0, l1, l2, l3, l4, l5, l6] (.long x8 :: st) h Q = Wp d 45 6 [l0, l1, l2, l3, kl l4, some (.long x8), none] st h Q := (W_st2 (pc' := 6) (k := 5) f45_4 rfl rfl (by simp only [List.length_cons, List.length_nil]; omega)).trans (by rw [pst2_succ]; rfl)
theorem f45_6 : fetch 45 6 = some (.iload 4, 2, [], .null) := by decide +kernel
theorem w45_6 : Wp d 45 6 [l0, l1, l2, l3, some (.int x), l5, l6] st h Q = Wp d 45 8 [l0, l1, l2, l3, some (.int x), l5, l6] (.int x :: st) h Q := W_go f45_6 rfl
theorem f45_8 : fetch 45 8 = some (.sipush 1600, 3, [], .null) := by decide +kernel
theorem w45_8 : Wp d 45 8 [l0, l1, l2, l3, l4, l5, l6] st h Q = Wp d 45 11 [l0, l1, l2, l3, l4, l5, l6] (.int (1600 : Int32) :: st) h Q := W_go f45_8 rfl
theorem f45_11 : fetch 45 11 = some (.if_icmp .ge 41, 3, [], .null) := by decide +kernel
theorem w45_11 : Wp d 45 11 [l0, l1, l2, l3, l4, l5, l6] (.int y :: .int x :: st) h Q = if icond .ge x y = true then Wp d 45 52 [l0, l1, l2, l3, l4, l5, l6] st h Q else Wp d 45 14 [l0, l1, l2, l3, l4, l5, l6] st h Q := W_if f45_11 rfl
theorem f45_14 : fetch 45 14 = some (.aload_n 1, 1, [], .null) := by decide +kernel
theorem w45_14 : Wp d 45 14 [l0, some (.ref a), l2, l3, l4, l5, l6] st h Q = Wp d 45 15 [l0, some (.ref a), l2, l3, l4, l5, l6] (.ref a :: st) h Q := W_go f45_14 rfl
theorem f45_15 : fetch 45 15 = some (.iload 4, 2, [], .null) := by decide +kernel
theorem w45_15 : Wp d 45 15 [l0, l1, l2, l3, some (.int x), l5, l6] st h Q = Wp d 45 17 [l0, l1, l2, l3, some (.int x), l5, l6] (.int x :: st) h Q := W_go f45_15 rfl
theorem f45_17 : fetch 45 17 = some (.invokevirtual 49, 3, [39, 2, 5, 0, 2186, 1002, 2189, 2187, 2188], .null) := by decide +kernel
theorem w45_17 (hp : psum st ≤ 8) : Wp d 45 17 [l0, l1, l2, l3, l4, l5, l6] (v1 :: (.ref b) :: st) h Q = rP (h.2 b) 4 (Cp d 39 [(.ref b), v1] h (fun o => cK o (fun w h2 => Wp d 45 20 [l0, l1, l2, l3, l4, l5, l6] (w.toList ++ st) h2 Q) (fun E h2 => Q (.inr E, h2)))) := (W_invV (st := st) f45_17 rfl rfl (by simp only [List.length_cons]; omega) rfl rfl hp).trans (by simp only [hm45, if_true])
theorem f45_20 : fetch 45 20 = some (.invokestatic 62, 3, [50, 1, 0, 0, 2215, 1005, 2217, 2216], .null) := by decide +kernel
theorem w45_20 (hp : psum st ≤ 8) : Wp d 45 20 [l0, l1, l2, l3, l4, l5, l6] (v0 :: st) h Q = Cp d 50 [v0] h (fun o => cK o (fun w h2 => Wp d 45 23 [l0, l1, l2, l3, l4, l5, l6] (w.toList ++ st) h2 Q) (fun _ _ => False)) := (W_invS (st := st) f45_20 rfl rfl (by simp only [List.length_cons]; omega) rfl rfl hp)
theorem f45_23 : fetch 45 23 = some (.ifCond .eq 29, 3, [], .null) := by decide +kernel
theorem w45_23 : Wp d 45 23 [l0, l1, l2, l3, l4, l5, l6] (.int x :: st) h Q = if icond .eq x 0 = true then Wp d 45 52 [l0, l1, l2, l3, l4, l5, l6] st h Q else Wp d 45 26 [l0, l1, l2, l3, l4, l5, l6] st h Q := W_if f45_23 rfl
theorem f45_26 : fetch 45 26 = some (.lload 5, 2, [], .null) := by decide +kernel
theorem w45_26 : Wp d 45 26 [l0, l1, l2, l3, l4, some (.long x8), l6] st h Q = Wp d 45 28 [l0, l1, l2, l3, l4, some (.long x8), l6] (.long x8 :: st) h Q := W_go f45_26 rfl
theorem f45_28 : fetch 45 28 = some (.ldc2_w 81, 3, [2222], .long (10)) := by decide +kernel
theorem w45_28 : Wp d 45 28 [l0, l1, l2, l3, l4, l5, l6] st h Q = Wp d 45 31 [l0, l1, l2, l3, l4, l5, l6] ((.long (10)) :: st) h Q := W_go f45_28 rfl
theorem f45_31 : fetch 45 31 = some (.lmul, 1, [], .null) := by decide +kernel
theorem w45_31 : Wp d 45 31 [l0, l1, l2, l3, l4, l5, l6] (.long y8 :: .long x8 :: st) h Q = Wp d 45 32 [l0, l1, l2, l3, l4, l5, l6] (.long (x8 * y8) :: st) h Q := W_go f45_31 rfl
theorem f45_32 : fetch 45 32 = some (.aload_n 1, 1, [], .null) := by decide +kernel
theorem w45_32 : Wp d 45 32 [l0, some (.ref a), l2, l3, l4, l5, l6] st h Q = Wp d 45 33 [l0, some (.ref a), l2, l3, l4, l5, l6] (.ref a :: st) h Q := W_go f45_32 rfl
theorem f45_33 : fetch 45 33 = some (.iload 4, 2, [], .null) := by decide +kernel
theorem w45_33 : Wp d 45 33 [l0, l1, l2, l3, some (.int x), l5, l6] st h Q = Wp d 45 35 [l0, l1, l2, l3, some (.int x), l5, l6] (.int x :: st) h Q := W_go f45_33 rfl
theorem f45_35 : fetch 45 35 = some (.invokevirtual 49, 3, [39, 2, 5, 0, 2186, 1002, 2189, 2187, 2188], .null) := by decide +kernel
theorem w45_35 (hp : psum st ≤ 8) : Wp d 45 35 [l0, l1, l2, l3, l4, l5, l6] (v1 :: (.ref b) :: st) h Q = rP (h.2 b) 4 (Cp d 39 [(.ref b), v1] h (fun o => cK o (fun w h2 => Wp d 45 38 [l0, l1, l2, l3, l4, l5, l6] (w.toList ++ st) h2 Q) (fun E h2 => Q (.inr E, h2)))) := (W_invV (st := st) f45_35 rfl rfl (by simp only [List.length_cons]; omega) rfl rfl hp).trans (by simp only [hm45, if_true])
theorem f45_38 : fetch 45 38 = some (.i2l, 1, [], .null) := by decide +kernel
theorem w45_38 : Wp d 45 38 [l0, l1, l2, l3, l4, l5, l6] (.int x :: st) h Q = Wp d 45 39 [l0, l1, l2, l3, l4, l5, l6] (.long x.toInt64 :: st) h Q := W_go f45_38 rfl
theorem f45_39 : fetch 45 39 = some (.ladd, 1, [], .null) := by decide +kernel
theorem w45_39 : Wp d 45 39 [l0, l1, l2, l3, l4, l5, l6] (.long y8 :: .long x8 :: st) h Q = Wp d 45 40 [l0, l1, l2, l3, l4, l5, l6] (.long (x8 + y8) :: st) h Q := W_go f45_39 rfl
theorem f45_40 : fetch 45 40 = some (.ldc2_w 83, 3, [2223], .long (48)) := by decide +kernel
theorem w45_40 : Wp d 45 40 [l0, l1, l2, l3, l4, l5, l6] st h Q = Wp d 45 43 [l0, l1, l2, l3, l4, l5, l6] ((.long (48)) :: st) h Q := W_go f45_40 rfl
theorem f45_43 : fetch 45 43 = some (.lsub, 1, [], .null) := by decide +kernel
theorem w45_43 : Wp d 45 43 [l0, l1, l2, l3, l4, l5, l6] (.long y8 :: .long x8 :: st) h Q = Wp d 45 44 [l0, l1, l2, l3, l4, l5, l6] (.long (x8 - y8) :: st) h Q := W_go f45_43 rfl
theorem f45_44 : fetch 45 44 = some (.lstore 5, 2, [], .null) := by decide +kernel
theorem w45_44 : Wp d 45 44 [l0, l1, l2, l3, l4, l5, l6] (.long x8 :: st) h Q = Wp d 45 46 [l0, l1, l2, l3, kl l4, some (.long x8), none] st h Q := (W_st2 (pc' := 46) (k := 5) f45_44 rfl rfl (by simp only [List.length_cons, List.length_nil]; omega)).trans (by rw [pst2_succ]; rfl)
theorem f45_46 : fetch 45 46 = some (.iinc 4 1, 3, [], .null) := by decide +kernel
theorem w45_46 : Wp d 45 46 [l0, l1, l2, l3, some (.int x), l5, l6] st h Q = Wp d 45 49 [l0, l1, l2, kl l3, some (.int (x + (1 : Int32))), l5, l6] st h Q := (W_iinc (y := (1 : Int32)) f45_46 rfl (by simp only [List.length_cons, List.length_nil]; omega) (by decide)).trans (by rw [pst1_succ]; rfl)
theorem f45_49 : fetch 45 49 = some (.goto (-43), 3, [], .null) := by decide +kernel
theorem w45_49 : Wp d 45 49 [l0, l1, l2, l3, l4, l5, l6] st h Q = Wp d 45 6 [l0, l1, l2, l3, l4, l5, l6] st h Q := W_go f45_49 rfl
theorem f45_52 : fetch 45 52 = some (.aload_n 0, 1, [], .null) := by decide +kernel
theorem w45_52 : Wp d 45 52 [some (.ref a), l1, l2, l3, l4, l5, l6] st h Q = Wp d 45 53 [some (.ref a), l1, l2, l3, l4, l5, l6] (.ref a :: st) h Q := W_go f45_52 rfl
theorem f45_53 : fetch 45 53 = some (.iload_n 3, 1, [], .null) := by decide +kernel
theorem w45_53 : Wp d 45 53 [l0, l1, l2, some (.int x), l4, l5, l6] st h Q = Wp d 45 54 [l0, l1, l2, some (.int x), l4, l5, l6] (.int x :: st) h Q := W_go f45_53 rfl
theorem f45_54 : fetch 45 54 = some (.iload 4, 2, [], .null) := by decide +kernel
theorem w45_54 : Wp d 45 54 [l0, l1, l2, l3, some (.int x), l5, l6] st h Q = Wp d 45 56 [l0, l1, l2, l3, some (.int x), l5, l6] (.int x :: st) h Q := W_go f45_54 rfl
theorem f45_56 : fetch 45 56 = some (.iload_n 2, 1, [], .null) := by decide +kernel
theorem w45_56 : Wp d 45 56 [l0, l1, some (.int x), l3, l4, l5, l6] st h Q = Wp d 45 57 [l0, l1, some (.int x), l3, l4, l5, l6] (.int x :: st) h Q := W_go f45_56 rfl
theorem f45_57 : fetch 45 57 = some (.isub, 1, [], .null) := by decide +kernel
theorem w45_57 : Wp d 45 57 [l0, l1, l2, l3, l4, l5, l6] (.int y :: .int x :: st) h Q = Wp d 45 58 [l0, l1, l2, l3, l4, l5, l6] (.int (x - y) :: st) h Q := W_go f45_57 rfl
theorem f45_58 : fetch 45 58 = some (.iconst 3, 1, [], .null) := by decide +kernel
theorem w45_58 : Wp d 45 58 [l0, l1, l2, l3, l4, l5, l6] st h Q = Wp d 45 59 [l0, l1, l2, l3, l4, l5, l6] (.int (3 : Int32) :: st) h Q := W_go f45_58 rfl
theorem f45_59 : fetch 45 59 = some (.if_icmp .le 8, 3, [], .null) := by decide +kernel
theorem w45_59 : Wp d 45 59 [l0, l1, l2, l3, l4, l5, l6] (.int y :: .int x :: st) h Q = if icond .le x y = true then Wp d 45 67 [l0, l1, l2, l3, l4, l5, l6] st h Q else Wp d 45 62 [l0, l1, l2, l3, l4, l5, l6] st h Q := W_if f45_59 rfl
theorem f45_62 : fetch 45 62 = some (.bipush 32, 2, [], .null) := by decide +kernel
theorem w45_62 : Wp d 45 62 [l0, l1, l2, l3, l4, l5, l6] st h Q = Wp d 45 64 [l0, l1, l2, l3, l4, l5, l6] (.int (32 : Int32) :: st) h Q := W_go f45_62 rfl
theorem f45_64 : fetch 45 64 = some (.goto 5, 3, [], .null) := by decide +kernel
theorem w45_64 : Wp d 45 64 [l0, l1, l2, l3, l4, l5, l6] st h Q = Wp d 45 69 [l0, l1, l2, l3, l4, l5, l6] st h Q := W_go f45_64 rfl
theorem f45_67 : fetch 45 67 = some (.bipush 24, 2, [], .null) := by decide +kernel
theorem w45_67 : Wp d 45 67 [l0, l1, l2, l3, l4, l5, l6] st h Q = Wp d 45 69 [l0, l1, l2, l3, l4, l5, l6] (.int (24 : Int32) :: st) h Q := W_go f45_67 rfl
theorem f45_69 : fetch 45 69 = some (.iload_n 2, 1, [], .null) := by decide +kernel
theorem w45_69 : Wp d 45 69 [l0, l1, some (.int x), l3, l4, l5, l6] st h Q = Wp d 45 70 [l0, l1, some (.int x), l3, l4, l5, l6] (.int x :: st) h Q := W_go f45_69 rfl
theorem f45_70 : fetch 45 70 = some (.lload 5, 2, [], .null) := by decide +kernel
theorem w45_70 : Wp d 45 70 [l0, l1, l2, l3, l4, some (.long x8), l6] st h Q = Wp d 45 72 [l0, l1, l2, l3, l4, some (.long x8), l6] (.long x8 :: st) h Q := W_go f45_70 rfl
theorem f45_72 : fetch 45 72 = some (.invokevirtual 68, 3, [46, 5, 6, 0, 2205, 1005, 2208, 2207, 3], .null) := by decide +kernel
theorem w45_72 (hp : psum st ≤ 8) : Wp d 45 72 [l0, l1, l2, l3, l4, l5, l6] (v4 :: v3 :: v2 :: v1 :: (.ref b) :: st) h Q = rP (h.2 b) 5 (Cp d 46 [(.ref b), v1, v2, v3, v4] h (fun o => cK o (fun w h2 => Wp d 45 75 [l0, l1, l2, l3, l4, l5, l6] (w.toList ++ st) h2 Q) (fun E h2 => Q (.inr E, h2)))) := (W_invV (st := st) f45_72 rfl rfl (by simp only [List.length_cons]; omega) rfl rfl hp).trans (by simp only [hm45, if_true])
theorem f45_75 : fetch 45 75 = some (.iload 4, 2, [], .null) := by decide +kernel
theorem w45_75 : Wp d 45 75 [l0, l1, l2, l3, some (.int x), l5, l6] st h Q = Wp d 45 77 [l0, l1, l2, l3, some (.int x), l5, l6] (.int x :: st) h Q := W_go f45_75 rfl
theorem f45_77 : fetch 45 77 = some (.ireturn, 1, [], .null) := by decide +kernel
theorem w45_77 : Wp d 45 77 [l0, l1, l2, l3, l4, l5, l6] [.int x] h Q = Q (.inl (some (.int x)), h) := W_iret f45_77 hr45
theorem hm46 : mhs 46 = [] := by decide +kernel
theorem f46_0 : fetch 46 0 = some (.aload_n 0, 1, [], .null) := by decide +kernel
theorem w46_0 : Wp d 46 0 [some (.ref a), l1, l2, l3, l4, l5] st h Q = Wp d 46 1 [some (.ref a), l1, l2, l3, l4, l5] (.ref a :: st) h Q := W_go f46_0 rfl
theorem f46_1 : fetch 46 1 = some (.getfield 9, 3, [5, 0, 1208, 0], .null) := by decide +kernel
theorem w46_1 : Wp d 46 1 [l0, l1, l2, l3, l4, l5] (.ref a :: st) h Q = gP (h.2 a) 5 0 (fun w => Wp d 46 4 [l0, l1, l2, l3, l4, l5] (w :: st) h Q) := W_get f46_1 rfl
theorem f46_4 : fetch 46 4 = some (.iload_n 1, 1, [], .null) := by decide +kernel
theorem w46_4 : Wp d 46 4 [l0, some (.int x), l2, l3, l4, l5] st h Q = Wp d 46 5 [l0, some (.int x), l2, l3, l4, l5] (.int x :: st) h Q := W_go f46_4 rfl
theorem f46_5 : fetch 46 5 = some (.iload_n 2, 1, [], .null) := by decide +kernel
theorem w46_5 : Wp d 46 5 [l0, l1, some (.int x), l3, l4, l5] st h Q = Wp d 46 6 [l0, l1, some (.int x), l3, l4, l5] (.int x :: st) h Q := W_go f46_5 rfl
theorem f46_6 : fetch 46 6 = some (.invokestatic 85, 3, [116, 3, 0, 1, 2209, 1001, 2211, 2210], .null) := by decide +kernel
theorem w46_6 (hp : psum st ≤ 8) : Wp d 46 6 [l0, l1, l2, l3, l4, l5] (v2 :: v1 :: v0 :: st) h Q = Cp d 116 [v0, v1, v2] h (fun o => cK o (fun w h2 => Wp d 46 9 [l0, l1, l2, l3, l4, l5] (w.toList ++ st) h2 Q) (fun _ _ => False)) := (W_invS (st := st) f46_6 rfl rfl (by simp only [List.length_cons]; omega) rfl rfl hp)
theorem f46_9 : fetch 46 9 = some (.aload_n 0, 1, [], .null) := by decide +kernel
theorem w46_9 : Wp d 46 9 [some (.ref a), l1, l2, l3, l4, l5] st h Q = Wp d 46 10 [some (.ref a), l1, l2, l3, l4, l5] (.ref a :: st) h Q := W_go f46_9 rfl
theorem f46_10 : fetch 46 10 = some (.getfield 15, 3, [5, 1, 1210, 0], .null) := by decide +kernel
theorem w46_10 : Wp d 46 10 [l0, l1, l2, l3, l4, l5] (.ref a :: st) h Q = gP (h.2 a) 5 1 (fun w => Wp d 46 13 [l0, l1, l2, l3, l4, l5] (w :: st) h Q) := W_get f46_10 rfl
theorem f46_13 : fetch 46 13 = some (.iload_n 1, 1, [], .null) := by decide +kernel
theorem w46_13 : Wp d 46 13 [l0, some (.int x), l2, l3, l4, l5] st h Q = Wp d 46 14 [l0, some (.int x), l2, l3, l4, l5] (.int x :: st) h Q := W_go f46_13 rfl
theorem f46_14 : fetch 46 14 = some (.iload_n 3, 1, [], .null) := by decide +kernel
theorem w46_14 : Wp d 46 14 [l0, l1, l2, some (.int x), l4, l5] st h Q = Wp d 46 15 [l0, l1, l2, some (.int x), l4, l5] (.int x :: st) h Q := W_go f46_14 rfl
theorem f46_15 : fetch 46 15 = some (.invokestatic 85, 3, [116, 3, 0, 1, 2209, 1001, 2211, 2210], .null) := by decide +kernel
theorem w46_15 (hp : psum st ≤ 8) : Wp d 46 15 [l0, l1, l2, l3, l4, l5] (v2 :: v1 :: v0 :: st) h Q = Cp d 116 [v0, v1, v2] h (fun o => cK o (fun w h2 => Wp d 46 18 [l0, l1, l2, l3, l4, l5] (w.toList ++ st) h2 Q) (fun _ _ => False)) := (W_invS (st := st) f46_15 rfl rfl (by simp only [List.length_cons]; omega) rfl rfl hp)
theorem f46_18 : fetch 46 18 = some (.aload_n 0, 1, [], .null) := by decide +kernel
theorem w46_18 : Wp d 46 18 [some (.ref a), l1, l2, l3, l4, l5] st h Q = Wp d 46 19 [some (.ref a), l1, l2, l3, l4, l5] (.ref a :: st) h Q := W_go f46_18 rfl
theorem f46_19 : fetch 46 19 = some (.getfield 18, 3, [5, 2, 1212, 0], .null) := by decide +kernel
theorem w46_19 : Wp d 46 19 [l0, l1, l2, l3, l4, l5] (.ref a :: st) h Q = gP (h.2 a) 5 2 (fun w => Wp d 46 22 [l0, l1, l2, l3, l4, l5] (w :: st) h Q) := W_get f46_19 rfl
theorem f46_22 : fetch 46 22 = some (.iload_n 1, 1, [], .null) := by decide +kernel
theorem w46_22 : Wp d 46 22 [l0, some (.int x), l2, l3, l4, l5] st h Q = Wp d 46 23 [l0, some (.int x), l2, l3, l4, l5] (.int x :: st) h Q := W_go f46_22 rfl
theorem f46_23 : fetch 46 23 = some (.lload 4, 2, [], .null) := by decide +kernel
theorem w46_23 : Wp d 46 23 [l0, l1, l2, l3, some (.long x8), l5] st h Q = Wp d 46 25 [l0, l1, l2, l3, some (.long x8), l5] (.long x8 :: st) h Q := W_go f46_23 rfl
theorem f46_25 : fetch 46 25 = some (.invokestatic 89, 3, [117, 3, 0, 1, 2212, 1001, 2214, 2213], .null) := by decide +kernel
theorem w46_25 (hp : psum st ≤ 8) : Wp d 46 25 [l0, l1, l2, l3, l4, l5] (v2 :: v1 :: v0 :: st) h Q = Cp d 117 [v0, v1, v2] h (fun o => cK o (fun w h2 => Wp d 46 28 [l0, l1, l2, l3, l4, l5] (w.toList ++ st) h2 Q) (fun _ _ => False)) := (W_invS (st := st) f46_25 rfl rfl (by simp only [List.length_cons]; omega) rfl rfl hp)
theorem f46_28 : fetch 46 28 = some (.return_, 1, [], .null) := by decide +kernel
theorem w46_28 : Wp d 46 28 [l0, l1, l2, l3, l4, l5] [] h Q = Q (.inl none, h) := W_fin f46_28 rfl
theorem hm47 : mhs 47 = [] := by decide +kernel
theorem hr47 : mret 47 = (some .int) := by decide +kernel
theorem f47_0 : fetch 47 0 = some (.iconst 0, 1, [], .null) := by decide +kernel
theorem w47_0 : Wp d 47 0 [l0, l1, l2, l3] st h Q = Wp d 47 1 [l0, l1, l2, l3] (.int (0 : Int32) :: st) h Q := W_go f47_0 rfl
theorem f47_1 : fetch 47 1 = some (.istore_n 3, 1, [], .null) := by decide +kernel
theorem w47_1 : Wp d 47 1 [l0, l1, l2, l3] (.int x :: st) h Q = Wp d 47 2 [l0, l1, kl l2, some (.int x)] st h Q := (W_st1 (pc' := 2) (k := 3) f47_1 rfl rfl (by simp only [List.length_cons, List.length_nil]; omega)).trans (by rw [pst1_succ]; rfl)
theorem f47_2 : fetch 47 2 = some (.iload_n 3, 1, [], .null) := by decide +kernel
theorem w47_2 : Wp d 47 2 [l0, l1, l2, some (.int x)] st h Q = Wp d 47 3 [l0, l1, l2, some (.int x)] (.int x :: st) h Q := W_go f47_2 rfl
theorem f47_3 : fetch 47 3 = some (.aload_n 0, 1, [], .null) := by decide +kernel
theorem w47_3 : Wp d 47 3 [some (.ref a), l1, l2, l3] st h Q = Wp d 47 4 [some (.ref a), l1, l2, l3] (.ref a :: st) h Q := W_go f47_3 rfl
theorem f47_4 : fetch 47 4 = some (.getfield 22, 3, [5, 3, 1214, 0], .null) := by decide +kernel
theorem w47_4 : Wp d 47 4 [l0, l1, l2, l3] (.ref a :: st) h Q = gP (h.2 a) 5 3 (fun w => Wp d 47 7 [l0, l1, l2, l3] (w :: st) h Q) := W_get f47_4 rfl
theorem f47_7 : fetch 47 7 = some (.arraylength, 1, [], .null) := by decide +kernel
theorem w47_7 : Wp d 47 7 [l0, l1, l2, l3] (.ref a :: st) h Q = nP (h.2 a) (fun w => Wp d 47 8 [l0, l1, l2, l3] (.int w :: st) h Q) := W_len f47_7 rfl
theorem f47_8 : fetch 47 8 = some (.if_icmp .ge 22, 3, [], .null) := by decide +kernel
theorem w47_8 : Wp d 47 8 [l0, l1, l2, l3] (.int y :: .int x :: st) h Q = if icond .ge x y = true then Wp d 47 30 [l0, l1, l2, l3] st h Q else Wp d 47 11 [l0, l1, l2, l3] st h Q := W_if f47_8 rfl
theorem f47_11 : fetch 47 11 = some (.aload_n 0, 1, [], .null) := by decide +kernel
theorem w47_11 : Wp d 47 11 [some (.ref a), l1, l2, l3] st h Q = Wp d 47 12 [some (.ref a), l1, l2, l3] (.ref a :: st) h Q := W_go f47_11 rfl
theorem f47_12 : fetch 47 12 = some (.getfield 22, 3, [5, 3, 1214, 0], .null) := by decide +kernel
theorem w47_12 : Wp d 47 12 [l0, l1, l2, l3] (.ref a :: st) h Q = gP (h.2 a) 5 3 (fun w => Wp d 47 15 [l0, l1, l2, l3] (w :: st) h Q) := W_get f47_12 rfl
theorem f47_15 : fetch 47 15 = some (.iload_n 3, 1, [], .null) := by decide +kernel
theorem w47_15 : Wp d 47 15 [l0, l1, l2, some (.int x)] st h Q = Wp d 47 16 [l0, l1, l2, some (.int x)] (.int x :: st) h Q := W_go f47_15 rfl
theorem f47_16 : fetch 47 16 = some (.laload, 1, [], .null) := by decide +kernel
theorem w47_16 : Wp d 47 16 [l0, l1, l2, l3] (.int x :: .ref a :: st) h Q = lP (h.2 a) x (fun w => Wp d 47 17 [l0, l1, l2, l3] (.long w :: st) h Q) := W_lld f47_16 rfl
theorem f47_17 : fetch 47 17 = some (.lload_n 1, 1, [], .null) := by decide +kernel
theorem w47_17 : Wp d 47 17 [l0, some (.long x8), l2, l3] st h Q = Wp d 47 18 [l0, some (.long x8), l2, l3] (.long x8 :: st) h Q := W_go f47_17 rfl
theorem f47_18 : fetch 47 18 = some (.lcmp, 1, [], .null) := by decide +kernel
theorem w47_18 : Wp d 47 18 [l0, l1, l2, l3] (.long y8 :: .long x8 :: st) h Q = Wp d 47 19 [l0, l1, l2, l3] (.int (lg_cmp x8 y8) :: st) h Q := W_go f47_18 rfl
theorem f47_19 : fetch 47 19 = some (.ifCond .ne 5, 3, [], .null) := by decide +kernel
theorem w47_19 : Wp d 47 19 [l0, l1, l2, l3] (.int x :: st) h Q = if icond .ne x 0 = true then Wp d 47 24 [l0, l1, l2, l3] st h Q else Wp d 47 22 [l0, l1, l2, l3] st h Q := W_if f47_19 rfl
theorem f47_22 : fetch 47 22 = some (.iload_n 3, 1, [], .null) := by decide +kernel
theorem w47_22 : Wp d 47 22 [l0, l1, l2, some (.int x)] st h Q = Wp d 47 23 [l0, l1, l2, some (.int x)] (.int x :: st) h Q := W_go f47_22 rfl
theorem f47_23 : fetch 47 23 = some (.ireturn, 1, [], .null) := by decide +kernel
theorem w47_23 : Wp d 47 23 [l0, l1, l2, l3] [.int x] h Q = Q (.inl (some (.int x)), h) := W_iret f47_23 hr47
theorem f47_24 : fetch 47 24 = some (.iinc 3 1, 3, [], .null) := by decide +kernel
theorem w47_24 : Wp d 47 24 [l0, l1, l2, some (.int x)] st h Q = Wp d 47 27 [l0, l1, kl l2, some (.int (x + (1 : Int32)))] st h Q := (W_iinc (y := (1 : Int32)) f47_24 rfl (by simp only [List.length_cons, List.length_nil]; omega) (by decide)).trans (by rw [pst1_succ]; rfl)
theorem f47_27 : fetch 47 27 = some (.goto (-25), 3, [], .null) := by decide +kernel
theorem w47_27 : Wp d 47 27 [l0, l1, l2, l3] st h Q = Wp d 47 2 [l0, l1, l2, l3] st h Q := W_go f47_27 rfl
theorem f47_30 : fetch 47 30 = some (.bipush 23, 2, [], .null) := by decide +kernel
theorem w47_30 : Wp d 47 30 [l0, l1, l2, l3] st h Q = Wp d 47 32 [l0, l1, l2, l3] (.int (23 : Int32) :: st) h Q := W_go f47_30 rfl
theorem f47_32 : fetch 47 32 = some (.ireturn, 1, [], .null) := by decide +kernel
theorem w47_32 : Wp d 47 32 [l0, l1, l2, l3] [.int x] h Q = Q (.inl (some (.int x)), h) := W_iret f47_32 hr47
theorem hm48 : mhs 48 = [] := by decide +kernel
theorem f48_0 : fetch 48 0 = some (.lload_n 0, 1, [], .null) := by decide +kernel
theorem w48_0 : Wp d 48 0 [some (.long x8), l1, l2] st h Q = Wp d 48 1 [some (.long x8), l1, l2] (.long x8 :: st) h Q := W_go f48_0 rfl
theorem f48_1 : fetch 48 1 = some (.ldc2_w 92, 3, [1206], .long (27)) := by decide +kernel
theorem w48_1 : Wp d 48 1 [l0, l1, l2] st h Q = Wp d 48 4 [l0, l1, l2] ((.long (27)) :: st) h Q := W_go f48_1 rfl
theorem f48_4 : fetch 48 4 = some (.lmul, 1, [], .null) := by decide +kernel
theorem w48_4 : Wp d 48 4 [l0, l1, l2] (.long y8 :: .long x8 :: st) h Q = Wp d 48 5 [l0, l1, l2] (.long (x8 * y8) :: st) h Q := W_go f48_4 rfl
theorem f48_5 : fetch 48 5 = some (.iload_n 2, 1, [], .null) := by decide +kernel
theorem w48_5 : Wp d 48 5 [l0, l1, some (.int x)] st h Q = Wp d 48 6 [l0, l1, some (.int x)] (.int x :: st) h Q := W_go f48_5 rfl
theorem f48_6 : fetch 48 6 = some (.i2l, 1, [], .null) := by decide +kernel
theorem w48_6 : Wp d 48 6 [l0, l1, l2] (.int x :: st) h Q = Wp d 48 7 [l0, l1, l2] (.long x.toInt64 :: st) h Q := W_go f48_6 rfl
theorem f48_7 : fetch 48 7 = some (.ladd, 1, [], .null) := by decide +kernel
theorem w48_7 : Wp d 48 7 [l0, l1, l2] (.long y8 :: .long x8 :: st) h Q = Wp d 48 8 [l0, l1, l2] (.long (x8 + y8) :: st) h Q := W_go f48_7 rfl
theorem f48_8 : fetch 48 8 = some (.ldc2_w 94, 3, [1207], .long (97)) := by decide +kernel
theorem w48_8 : Wp d 48 8 [l0, l1, l2] st h Q = Wp d 48 11 [l0, l1, l2] ((.long (97)) :: st) h Q := W_go f48_8 rfl
theorem f48_11 : fetch 48 11 = some (.lsub, 1, [], .null) := by decide +kernel
theorem w48_11 : Wp d 48 11 [l0, l1, l2] (.long y8 :: .long x8 :: st) h Q = Wp d 48 12 [l0, l1, l2] (.long (x8 - y8) :: st) h Q := W_go f48_11 rfl
theorem f48_12 : fetch 48 12 = some (.lconst 1, 1, [], .null) := by decide +kernel
theorem w48_12 : Wp d 48 12 [l0, l1, l2] st h Q = Wp d 48 13 [l0, l1, l2] (.long (1 : Int64) :: st) h Q := W_go f48_12 rfl
theorem f48_13 : fetch 48 13 = some (.ladd, 1, [], .null) := by decide +kernel
theorem w48_13 : Wp d 48 13 [l0, l1, l2] (.long y8 :: .long x8 :: st) h Q = Wp d 48 14 [l0, l1, l2] (.long (x8 + y8) :: st) h Q := W_go f48_13 rfl
theorem f48_14 : fetch 48 14 = some (.lreturn, 1, [], .null) := by decide +kernel
theorem w48_14 : Wp d 48 14 [l0, l1, l2] [.long x8] h Q = Q (.inl (some (.long x8)), h) := W_fin f48_14 rfl
theorem hm49 : mhs 49 = [] := by decide +kernel
theorem hr49 : mret 49 = (some .boolean) := by decide +kernel
theorem f49_0 : fetch 49 0 = some (.iload_n 0, 1, [], .null) := by decide +kernel
theorem w49_0 : Wp d 49 0 [some (.int x)] st h Q = Wp d 49 1 [some (.int x)] (.int x :: st) h Q := W_go f49_0 rfl
theorem f49_1 : fetch 49 1 = some (.bipush 97, 2, [], .null) := by decide +kernel
theorem w49_1 : Wp d 49 1 [l0] st h Q = Wp d 49 3 [l0] (.int (97 : Int32) :: st) h Q := W_go f49_1 rfl
theorem f49_3 : fetch 49 3 = some (.if_icmp .lt 13, 3, [], .null) := by decide +kernel
theorem w49_3 : Wp d 49 3 [l0] (.int y :: .int x :: st) h Q = if icond .lt x y = true then Wp d 49 16 [l0] st h Q else Wp d 49 6 [l0] st h Q := W_if f49_3 rfl
theorem f49_6 : fetch 49 6 = some (.iload_n 0, 1, [], .null) := by decide +kernel
theorem w49_6 : Wp d 49 6 [some (.int x)] st h Q = Wp d 49 7 [some (.int x)] (.int x :: st) h Q := W_go f49_6 rfl
theorem f49_7 : fetch 49 7 = some (.bipush 122, 2, [], .null) := by decide +kernel
theorem w49_7 : Wp d 49 7 [l0] st h Q = Wp d 49 9 [l0] (.int (122 : Int32) :: st) h Q := W_go f49_7 rfl
theorem f49_9 : fetch 49 9 = some (.if_icmp .gt 7, 3, [], .null) := by decide +kernel
theorem w49_9 : Wp d 49 9 [l0] (.int y :: .int x :: st) h Q = if icond .gt x y = true then Wp d 49 16 [l0] st h Q else Wp d 49 12 [l0] st h Q := W_if f49_9 rfl
theorem f49_12 : fetch 49 12 = some (.iconst 1, 1, [], .null) := by decide +kernel
theorem w49_12 : Wp d 49 12 [l0] st h Q = Wp d 49 13 [l0] (.int (1 : Int32) :: st) h Q := W_go f49_12 rfl
theorem f49_13 : fetch 49 13 = some (.goto 4, 3, [], .null) := by decide +kernel
theorem w49_13 : Wp d 49 13 [l0] st h Q = Wp d 49 17 [l0] st h Q := W_go f49_13 rfl
theorem f49_16 : fetch 49 16 = some (.iconst 0, 1, [], .null) := by decide +kernel
theorem w49_16 : Wp d 49 16 [l0] st h Q = Wp d 49 17 [l0] (.int (0 : Int32) :: st) h Q := W_go f49_16 rfl
theorem f49_17 : fetch 49 17 = some (.ireturn, 1, [], .null) := by decide +kernel
theorem w49_17 : Wp d 49 17 [l0] [.int x] h Q = (if narrow .boolean (.int x) = .int x then Q (.inl (some (.int x)), h) else False) := W_zret f49_17 hr49
theorem hm50 : mhs 50 = [] := by decide +kernel
theorem hr50 : mret 50 = (some .boolean) := by decide +kernel
theorem f50_0 : fetch 50 0 = some (.iload_n 0, 1, [], .null) := by decide +kernel
theorem w50_0 : Wp d 50 0 [some (.int x)] st h Q = Wp d 50 1 [some (.int x)] (.int x :: st) h Q := W_go f50_0 rfl
theorem f50_1 : fetch 50 1 = some (.bipush 48, 2, [], .null) := by decide +kernel
theorem w50_1 : Wp d 50 1 [l0] st h Q = Wp d 50 3 [l0] (.int (48 : Int32) :: st) h Q := W_go f50_1 rfl
theorem f50_3 : fetch 50 3 = some (.if_icmp .lt 13, 3, [], .null) := by decide +kernel
theorem w50_3 : Wp d 50 3 [l0] (.int y :: .int x :: st) h Q = if icond .lt x y = true then Wp d 50 16 [l0] st h Q else Wp d 50 6 [l0] st h Q := W_if f50_3 rfl
theorem f50_6 : fetch 50 6 = some (.iload_n 0, 1, [], .null) := by decide +kernel
theorem w50_6 : Wp d 50 6 [some (.int x)] st h Q = Wp d 50 7 [some (.int x)] (.int x :: st) h Q := W_go f50_6 rfl
theorem f50_7 : fetch 50 7 = some (.bipush 57, 2, [], .null) := by decide +kernel
theorem w50_7 : Wp d 50 7 [l0] st h Q = Wp d 50 9 [l0] (.int (57 : Int32) :: st) h Q := W_go f50_7 rfl
theorem f50_9 : fetch 50 9 = some (.if_icmp .gt 7, 3, [], .null) := by decide +kernel
theorem w50_9 : Wp d 50 9 [l0] (.int y :: .int x :: st) h Q = if icond .gt x y = true then Wp d 50 16 [l0] st h Q else Wp d 50 12 [l0] st h Q := W_if f50_9 rfl
theorem f50_12 : fetch 50 12 = some (.iconst 1, 1, [], .null) := by decide +kernel
theorem w50_12 : Wp d 50 12 [l0] st h Q = Wp d 50 13 [l0] (.int (1 : Int32) :: st) h Q := W_go f50_12 rfl
theorem f50_13 : fetch 50 13 = some (.goto 4, 3, [], .null) := by decide +kernel
theorem w50_13 : Wp d 50 13 [l0] st h Q = Wp d 50 17 [l0] st h Q := W_go f50_13 rfl
theorem f50_16 : fetch 50 16 = some (.iconst 0, 1, [], .null) := by decide +kernel
theorem w50_16 : Wp d 50 16 [l0] st h Q = Wp d 50 17 [l0] (.int (0 : Int32) :: st) h Q := W_go f50_16 rfl
theorem f50_17 : fetch 50 17 = some (.ireturn, 1, [], .null) := by decide +kernel
theorem w50_17 : Wp d 50 17 [l0] [.int x] h Q = (if narrow .boolean (.int x) = .int x then Q (.inl (some (.int x)), h) else False) := W_zret f50_17 hr50
theorem hm51 : mhs 51 = [] := by decide +kernel
theorem f51_0 : fetch 51 0 = some (.aload_n 0, 1, [], .null) := by decide +kernel
theorem w51_0 : Wp d 51 0 [some (.ref a), l1, l2] st h Q = Wp d 51 1 [some (.ref a), l1, l2] (.ref a :: st) h Q := W_go f51_0 rfl
theorem f51_1 : fetch 51 1 = some (.invokespecial 3, 3, [9999, 2022, 1031, 1032], .null) := by decide +kernel
theorem w51_1 (hp : psum st ≤ 8 ∧ a ≠ 201) : Wp d 51 1 [l0, l1, l2] (.ref a :: st) h Q = Wp d 51 4 [l0, l1, l2] st h Q := W_go f51_1 (by simp only [pstep, if_pos hp]; rfl)
theorem f51_4 : fetch 51 4 = some (.aload_n 0, 1, [], .null) := by decide +kernel
theorem w51_4 : Wp d 51 4 [some (.ref a), l1, l2] st h Q = Wp d 51 5 [some (.ref a), l1, l2] (.ref a :: st) h Q := W_go f51_4 rfl
theorem f51_5 : fetch 51 5 = some (.bipush 10, 2, [], .null) := by decide +kernel
theorem w51_5 : Wp d 51 5 [l0, l1, l2] st h Q = Wp d 51 7 [l0, l1, l2] (.int (10 : Int32) :: st) h Q := W_go f51_5 rfl
theorem f51_7 : fetch 51 7 = some (.anewarray 9, 3, [4, 2023], .null) := by decide +kernel
theorem w51_7 (hx : ¬ x < 0 ∧ x.toNatClampNeg ≤ 60000) : Wp d 51 7 [l0, l1, l2] (.int x :: st) h Q = Wp d 51 10 [l0, l1, l2] (.ref h.1.1 :: st) (hnew h x.toNatClampNeg (.inl (4, arr0 4 x.toNatClampNeg))) Q := W_go f51_7 (by simp only [pstep, pnewa, if_pos hx]; rfl)
theorem f51_10 : fetch 51 10 = some (.putfield 11, 3, [6, 1, 2121, 0], .null) := by decide +kernel
theorem w51_10 : Wp d 51 10 [l0, l1, l2] (v :: .ref a :: st) h Q = pP (h.2 a) 6 1 (ftOf 6 1) v a (fun c => Wp d 51 13 [l0, l1, l2] st (hset h a c) Q) := W_put f51_10 (by rfl)
theorem f51_13 : fetch 51 13 = some (.aload_n 0, 1, [], .null) := by decide +kernel
theorem w51_13 : Wp d 51 13 [some (.ref a), l1, l2] st h Q = Wp d 51 14 [some (.ref a), l1, l2] (.ref a :: st) h Q := W_go f51_13 rfl
theorem f51_14 : fetch 51 14 = some (.iconst 3, 1, [], .null) := by decide +kernel
theorem w51_14 : Wp d 51 14 [l0, l1, l2] st h Q = Wp d 51 15 [l0, l1, l2] (.int (3 : Int32) :: st) h Q := W_go f51_14 rfl
theorem f51_15 : fetch 51 15 = some (.anewarray 17, 3, [5, 2025], .null) := by decide +kernel
theorem w51_15 (hx : ¬ x < 0 ∧ x.toNatClampNeg ≤ 60000) : Wp d 51 15 [l0, l1, l2] (.int x :: st) h Q = Wp d 51 18 [l0, l1, l2] (.ref h.1.1 :: st) (hnew h x.toNatClampNeg (.inl (5, arr0 5 x.toNatClampNeg))) Q := W_go f51_15 (by simp only [pstep, pnewa, if_pos hx]; rfl)
theorem f51_18 : fetch 51 18 = some (.putfield 19, 3, [6, 2, 2123, 0], .null) := by decide +kernel
theorem w51_18 : Wp d 51 18 [l0, l1, l2] (v :: .ref a :: st) h Q = pP (h.2 a) 6 2 (ftOf 6 2) v a (fun c => Wp d 51 21 [l0, l1, l2] st (hset h a c) Q) := W_put f51_18 (by rfl)
theorem f51_21 : fetch 51 21 = some (.aload_n 0, 1, [], .null) := by decide +kernel
theorem w51_21 : Wp d 51 21 [some (.ref a), l1, l2] st h Q = Wp d 51 22 [some (.ref a), l1, l2] (.ref a :: st) h Q := W_go f51_21 rfl
theorem f51_22 : fetch 51 22 = some (.aload_n 1, 1, [], .null) := by decide +kernel
theorem w51_22 : Wp d 51 22 [l0, some (.ref a), l2] st h Q = Wp d 51 23 [l0, some (.ref a), l2] (.ref a :: st) h Q := W_go f51_22 rfl
theorem f51_23 : fetch 51 23 = some (.putfield 23, 3, [6, 0, 2119, 0], .null) := by decide +kernel
theorem w51_23 : Wp d 51 23 [l0, l1, l2] (v :: .ref a :: st) h Q = pP (h.2 a) 6 0 (ftOf 6 0) v a (fun c => Wp d 51 26 [l0, l1, l2] st (hset h a c) Q) := W_put f51_23 (by rfl)
theorem f51_26 : fetch 51 26 = some (.iconst 0, 1, [], .null) := by decide +kernel
theorem w51_26 : Wp d 51 26 [l0, l1, l2] st h Q = Wp d 51 27 [l0, l1, l2] (.int (0 : Int32) :: st) h Q := W_go f51_26 rfl
theorem f51_27 : fetch 51 27 = some (.istore_n 2, 1, [], .null) := by decide +kernel
theorem w51_27 : Wp d 51 27 [l0, l1, l2] (.int x :: st) h Q = Wp d 51 28 [l0, kl l1, some (.int x)] st h Q := (W_st1 (pc' := 28) (k := 2) f51_27 rfl rfl (by simp only [List.length_cons, List.length_nil]; omega)).trans (by rw [pst1_succ]; rfl)
theorem f51_28 : fetch 51 28 = some (.iload_n 2, 1, [], .null) := by decide +kernel
theorem w51_28 : Wp d 51 28 [l0, l1, some (.int x)] st h Q = Wp d 51 29 [l0, l1, some (.int x)] (.int x :: st) h Q := W_go f51_28 rfl
theorem f51_29 : fetch 51 29 = some (.aload_n 0, 1, [], .null) := by decide +kernel
theorem w51_29 : Wp d 51 29 [some (.ref a), l1, l2] st h Q = Wp d 51 30 [some (.ref a), l1, l2] (.ref a :: st) h Q := W_go f51_29 rfl
theorem f51_30 : fetch 51 30 = some (.getfield 11, 3, [6, 1, 2121, 0], .null) := by decide +kernel
theorem w51_30 : Wp d 51 30 [l0, l1, l2] (.ref a :: st) h Q = gP (h.2 a) 6 1 (fun w => Wp d 51 33 [l0, l1, l2] (w :: st) h Q) := W_get f51_30 rfl
theorem f51_33 : fetch 51 33 = some (.arraylength, 1, [], .null) := by decide +kernel
theorem w51_33 : Wp d 51 33 [l0, l1, l2] (.ref a :: st) h Q = nP (h.2 a) (fun w => Wp d 51 34 [l0, l1, l2] (.int w :: st) h Q) := W_len f51_33 rfl
theorem f51_34 : fetch 51 34 = some (.if_icmp .ge 22, 3, [], .null) := by decide +kernel
theorem w51_34 : Wp d 51 34 [l0, l1, l2] (.int y :: .int x :: st) h Q = if icond .ge x y = true then Wp d 51 56 [l0, l1, l2] st h Q else Wp d 51 37 [l0, l1, l2] st h Q := W_if f51_34 rfl
theorem f51_37 : fetch 51 37 = some (.aload_n 0, 1, [], .null) := by decide +kernel
theorem w51_37 : Wp d 51 37 [some (.ref a), l1, l2] st h Q = Wp d 51 38 [some (.ref a), l1, l2] (.ref a :: st) h Q := W_go f51_37 rfl
theorem f51_38 : fetch 51 38 = some (.getfield 11, 3, [6, 1, 2121, 0], .null) := by decide +kernel
theorem w51_38 : Wp d 51 38 [l0, l1, l2] (.ref a :: st) h Q = gP (h.2 a) 6 1 (fun w => Wp d 51 41 [l0, l1, l2] (w :: st) h Q) := W_get f51_38 rfl
theorem f51_41 : fetch 51 41 = some (.iload_n 2, 1, [], .null) := by decide +kernel
theorem w51_41 : Wp d 51 41 [l0, l1, some (.int x)] st h Q = Wp d 51 42 [l0, l1, some (.int x)] (.int x :: st) h Q := W_go f51_41 rfl
theorem f51_42 : fetch 51 42 = some (.new 9, 3, [1, 2023, 2027, 1011], .null) := by decide +kernel
theorem w51_42 : Wp d 51 42 [l0, l1, l2] st h Q = Wp d 51 45 [l0, l1, l2] (.ref h.1.1 :: st) (hnew h (pdef 1).length (.inr (1, pdef 1))) Q := W_go f51_42 rfl
theorem f51_45 : fetch 51 45 = some (.dup, 1, [], .null) := by decide +kernel
theorem w51_45i : Wp d 51 45 [l0, l1, l2] (.int x :: st) h Q = Wp d 51 46 [l0, l1, l2] (.int x :: .int x :: st) h Q := W_go f51_45 rfl
theorem w51_45 : Wp d 51 45 [l0, l1, l2] (.ref a :: st) h Q = Wp d 51 46 [l0, l1, l2] (.ref a :: .ref a :: st) h Q := W_go f51_45 rfl
theorem f51_46 : fetch 51 46 = some (.invokespecial 27, 3, [2, 1, 0, 1, 2028, 1011, 2030, 2029], .null) := by decide +kernel
theorem w51_46 (hp : psum st ≤ 8) (hb : b ≠ 201) : Wp d 51 46 [l0, l1, l2] ((.ref b) :: st) h Q = Cp d 2 [(.ref b)] h (fun o => cK o (fun w h2 => Wp d 51 49 [l0, l1, l2] (w.toList ++ st) h2 Q) (fun _ _ => False)) := (W_invI (st := st) f51_46 rfl rfl (by simp only [List.length_cons]; omega) rfl rfl hp hb)
theorem f51_49 : fetch 51 49 = some (.aastore, 1, [], .null) := by decide +kernel
theorem w51_49 : Wp d 51 49 [l0, l1, l2] (.ref b :: .int x :: .ref a :: st) h Q = qsP (h.2 a) (h.2 b) a b x (fun c => Wp d 51 50 [l0, l1, l2] st (hset h a c) Q) := W_qst f51_49 rfl
theorem f51_50 : fetch 51 50 = some (.iinc 2 1, 3, [], .null) := by decide +kernel
theorem w51_50 : Wp d 51 50 [l0, l1, some (.int x)] st h Q = Wp d 51 53 [l0, kl l1, some (.int (x + (1 : Int32)))] st h Q := (W_iinc (y := (1 : Int32)) f51_50 rfl (by simp only [List.length_cons, List.length_nil]; omega) (by decide)).trans (by rw [pst1_succ]; rfl)
theorem f51_53 : fetch 51 53 = some (.goto (-25), 3, [], .null) := by decide +kernel
theorem w51_53 : Wp d 51 53 [l0, l1, l2] st h Q = Wp d 51 28 [l0, l1, l2] st h Q := W_go f51_53 rfl
theorem f51_56 : fetch 51 56 = some (.iconst 0, 1, [], .null) := by decide +kernel
theorem w51_56 : Wp d 51 56 [l0, l1, l2] st h Q = Wp d 51 57 [l0, l1, l2] (.int (0 : Int32) :: st) h Q := W_go f51_56 rfl
theorem f51_57 : fetch 51 57 = some (.istore_n 2, 1, [], .null) := by decide +kernel
theorem w51_57 : Wp d 51 57 [l0, l1, l2] (.int x :: st) h Q = Wp d 51 58 [l0, kl l1, some (.int x)] st h Q := (W_st1 (pc' := 58) (k := 2) f51_57 rfl rfl (by simp only [List.length_cons, List.length_nil]; omega)).trans (by rw [pst1_succ]; rfl)
theorem f51_58 : fetch 51 58 = some (.iload_n 2, 1, [], .null) := by decide +kernel
theorem w51_58 : Wp d 51 58 [l0, l1, some (.int x)] st h Q = Wp d 51 59 [l0, l1, some (.int x)] (.int x :: st) h Q := W_go f51_58 rfl
theorem f51_59 : fetch 51 59 = some (.aload_n 0, 1, [], .null) := by decide +kernel
theorem w51_59 : Wp d 51 59 [some (.ref a), l1, l2] st h Q = Wp d 51 60 [some (.ref a), l1, l2] (.ref a :: st) h Q := W_go f51_59 rfl
theorem f51_60 : fetch 51 60 = some (.getfield 19, 3, [6, 2, 2123, 0], .null) := by decide +kernel
theorem w51_60 : Wp d 51 60 [l0, l1, l2] (.ref a :: st) h Q = gP (h.2 a) 6 2 (fun w => Wp d 51 63 [l0, l1, l2] (w :: st) h Q) := W_get f51_60 rfl
theorem f51_63 : fetch 51 63 = some (.arraylength, 1, [], .null) := by decide +kernel
theorem w51_63 : Wp d 51 63 [l0, l1, l2] (.ref a :: st) h Q = nP (h.2 a) (fun w => Wp d 51 64 [l0, l1, l2] (.int w :: st) h Q) := W_len f51_63 rfl
theorem f51_64 : fetch 51 64 = some (.if_icmp .ge 22, 3, [], .null) := by decide +kernel
theorem w51_64 : Wp d 51 64 [l0, l1, l2] (.int y :: .int x :: st) h Q = if icond .ge x y = true then Wp d 51 86 [l0, l1, l2] st h Q else Wp d 51 67 [l0, l1, l2] st h Q := W_if f51_64 rfl
theorem f51_67 : fetch 51 67 = some (.aload_n 0, 1, [], .null) := by decide +kernel
theorem w51_67 : Wp d 51 67 [some (.ref a), l1, l2] st h Q = Wp d 51 68 [some (.ref a), l1, l2] (.ref a :: st) h Q := W_go f51_67 rfl
theorem f51_68 : fetch 51 68 = some (.getfield 19, 3, [6, 2, 2123, 0], .null) := by decide +kernel
theorem w51_68 : Wp d 51 68 [l0, l1, l2] (.ref a :: st) h Q = gP (h.2 a) 6 2 (fun w => Wp d 51 71 [l0, l1, l2] (w :: st) h Q) := W_get f51_68 rfl
theorem f51_71 : fetch 51 71 = some (.iload_n 2, 1, [], .null) := by decide +kernel
theorem w51_71 : Wp d 51 71 [l0, l1, some (.int x)] st h Q = Wp d 51 72 [l0, l1, some (.int x)] (.int x :: st) h Q := W_go f51_71 rfl
theorem f51_72 : fetch 51 72 = some (.new 17, 3, [2, 2025, 2066, 1012], .null) := by decide +kernel
theorem w51_72 : Wp d 51 72 [l0, l1, l2] st h Q = Wp d 51 75 [l0, l1, l2] (.ref h.1.1 :: st) (hnew h (pdef 2).length (.inr (2, pdef 2))) Q := W_go f51_72 rfl
theorem f51_75 : fetch 51 75 = some (.dup, 1, [], .null) := by decide +kernel
theorem w51_75i : Wp d 51 75 [l0, l1, l2] (.int x :: st) h Q = Wp d 51 76 [l0, l1, l2] (.int x :: .int x :: st) h Q := W_go f51_75 rfl
theorem w51_75 : Wp d 51 75 [l0, l1, l2] (.ref a :: st) h Q = Wp d 51 76 [l0, l1, l2] (.ref a :: .ref a :: st) h Q := W_go f51_75 rfl
theorem f51_76 : fetch 51 76 = some (.invokespecial 28, 3, [8, 1, 0, 1, 2067, 1012, 2069, 2068], .null) := by decide +kernel
theorem w51_76 (hp : psum st ≤ 8) (hb : b ≠ 201) : Wp d 51 76 [l0, l1, l2] ((.ref b) :: st) h Q = Cp d 8 [(.ref b)] h (fun o => cK o (fun w h2 => Wp d 51 79 [l0, l1, l2] (w.toList ++ st) h2 Q) (fun _ _ => False)) := (W_invI (st := st) f51_76 rfl rfl (by simp only [List.length_cons]; omega) rfl rfl hp hb)
theorem f51_79 : fetch 51 79 = some (.aastore, 1, [], .null) := by decide +kernel
theorem w51_79 : Wp d 51 79 [l0, l1, l2] (.ref b :: .int x :: .ref a :: st) h Q = qsP (h.2 a) (h.2 b) a b x (fun c => Wp d 51 80 [l0, l1, l2] st (hset h a c) Q) := W_qst f51_79 rfl
theorem f51_80 : fetch 51 80 = some (.iinc 2 1, 3, [], .null) := by decide +kernel
theorem w51_80 : Wp d 51 80 [l0, l1, some (.int x)] st h Q = Wp d 51 83 [l0, kl l1, some (.int (x + (1 : Int32)))] st h Q := (W_iinc (y := (1 : Int32)) f51_80 rfl (by simp only [List.length_cons, List.length_nil]; omega) (by decide)).trans (by rw [pst1_succ]; rfl)
theorem f51_83 : fetch 51 83 = some (.goto (-25), 3, [], .null) := by decide +kernel
theorem w51_83 : Wp d 51 83 [l0, l1, l2] st h Q = Wp d 51 58 [l0, l1, l2] st h Q := W_go f51_83 rfl
theorem f51_86 : fetch 51 86 = some (.return_, 1, [], .null) := by decide +kernel
theorem w51_86 : Wp d 51 86 [l0, l1, l2] [] h Q = Q (.inl none, h) := W_fin f51_86 rfl
theorem hm52 : mhs 52 = [] := by decide +kernel
theorem f52_0 : fetch 52 0 = some (.aload_n 0, 1, [], .null) := by decide +kernel
theorem w52_0 : Wp d 52 0 [some (.ref a), l1, l2] st h Q = Wp d 52 1 [some (.ref a), l1, l2] (.ref a :: st) h Q := W_go f52_0 rfl
theorem f52_1 : fetch 52 1 = some (.aload_n 1, 1, [], .null) := by decide +kernel
theorem w52_1 : Wp d 52 1 [l0, some (.ref a), l2] st h Q = Wp d 52 2 [l0, some (.ref a), l2] (.ref a :: st) h Q := W_go f52_1 rfl
theorem f52_2 : fetch 52 2 = some (.putfield 23, 3, [6, 0, 2119, 0], .null) := by decide +kernel
theorem w52_2 : Wp d 52 2 [l0, l1, l2] (v :: .ref a :: st) h Q = pP (h.2 a) 6 0 (ftOf 6 0) v a (fun c => Wp d 52 5 [l0, l1, l2] st (hset h a c) Q) := W_put f52_2 (by rfl)
theorem f52_5 : fetch 52 5 = some (.aload_n 0, 1, [], .null) := by decide +kernel
theorem w52_5 : Wp d 52 5 [some (.ref a), l1, l2] st h Q = Wp d 52 6 [some (.ref a), l1, l2] (.ref a :: st) h Q := W_go f52_5 rfl
theorem f52_6 : fetch 52 6 = some (.iconst 0, 1, [], .null) := by decide +kernel
theorem w52_6 : Wp d 52 6 [l0, l1, l2] st h Q = Wp d 52 7 [l0, l1, l2] (.int (0 : Int32) :: st) h Q := W_go f52_6 rfl
theorem f52_7 : fetch 52 7 = some (.putfield 29, 3, [6, 4, 2127, 0], .null) := by decide +kernel
theorem w52_7 : Wp d 52 7 [l0, l1, l2] (v :: .ref a :: st) h Q = pP (h.2 a) 6 4 (ftOf 6 4) v a (fun c => Wp d 52 10 [l0, l1, l2] st (hset h a c) Q) := W_put f52_7 (by rfl)
theorem f52_10 : fetch 52 10 = some (.aload_n 0, 1, [], .null) := by decide +kernel
theorem w52_10 : Wp d 52 10 [some (.ref a), l1, l2] st h Q = Wp d 52 11 [some (.ref a), l1, l2] (.ref a :: st) h Q := W_go f52_10 rfl
theorem f52_11 : fetch 52 11 = some (.iconst 0, 1, [], .null) := by decide +kernel
theorem w52_11 : Wp d 52 11 [l0, l1, l2] st h Q = Wp d 52 12 [l0, l1, l2] (.int (0 : Int32) :: st) h Q := W_go f52_11 rfl
theorem f52_12 : fetch 52 12 = some (.putfield 33, 3, [6, 5, 2129, 0], .null) := by decide +kernel
theorem w52_12 : Wp d 52 12 [l0, l1, l2] (v :: .ref a :: st) h Q = pP (h.2 a) 6 5 (ftOf 6 5) v a (fun c => Wp d 52 15 [l0, l1, l2] st (hset h a c) Q) := W_put f52_12 (by rfl)
theorem f52_15 : fetch 52 15 = some (.aload_n 0, 1, [], .null) := by decide +kernel
theorem w52_15 : Wp d 52 15 [some (.ref a), l1, l2] st h Q = Wp d 52 16 [some (.ref a), l1, l2] (.ref a :: st) h Q := W_go f52_15 rfl
theorem f52_16 : fetch 52 16 = some (.iconst 0, 1, [], .null) := by decide +kernel
theorem w52_16 : Wp d 52 16 [l0, l1, l2] st h Q = Wp d 52 17 [l0, l1, l2] (.int (0 : Int32) :: st) h Q := W_go f52_16 rfl
theorem f52_17 : fetch 52 17 = some (.putfield 36, 3, [6, 6, 2131, 0], .null) := by decide +kernel
theorem w52_17 : Wp d 52 17 [l0, l1, l2] (v :: .ref a :: st) h Q = pP (h.2 a) 6 6 (ftOf 6 6) v a (fun c => Wp d 52 20 [l0, l1, l2] st (hset h a c) Q) := W_put f52_17 (by rfl)
theorem f52_20 : fetch 52 20 = some (.aload_n 0, 1, [], .null) := by decide +kernel
theorem w52_20 : Wp d 52 20 [some (.ref a), l1, l2] st h Q = Wp d 52 21 [some (.ref a), l1, l2] (.ref a :: st) h Q := W_go f52_20 rfl
theorem f52_21 : fetch 52 21 = some (.iconst 0, 1, [], .null) := by decide +kernel
theorem w52_21 : Wp d 52 21 [l0, l1, l2] st h Q = Wp d 52 22 [l0, l1, l2] (.int (0 : Int32) :: st) h Q := W_go f52_21 rfl
theorem f52_22 : fetch 52 22 = some (.putfield 39, 3, [6, 7, 2133, 0], .null) := by decide +kernel
theorem w52_22 : Wp d 52 22 [l0, l1, l2] (v :: .ref a :: st) h Q = pP (h.2 a) 6 7 (ftOf 6 7) v a (fun c => Wp d 52 25 [l0, l1, l2] st (hset h a c) Q) := W_put f52_22 (by rfl)
theorem f52_25 : fetch 52 25 = some (.iconst 0, 1, [], .null) := by decide +kernel
theorem w52_25 : Wp d 52 25 [l0, l1, l2] st h Q = Wp d 52 26 [l0, l1, l2] (.int (0 : Int32) :: st) h Q := W_go f52_25 rfl
theorem f52_26 : fetch 52 26 = some (.istore_n 2, 1, [], .null) := by decide +kernel
theorem w52_26 : Wp d 52 26 [l0, l1, l2] (.int x :: st) h Q = Wp d 52 27 [l0, kl l1, some (.int x)] st h Q := (W_st1 (pc' := 27) (k := 2) f52_26 rfl rfl (by simp only [List.length_cons, List.length_nil]; omega)).trans (by rw [pst1_succ]; rfl)
theorem f52_27 : fetch 52 27 = some (.iload_n 2, 1, [], .null) := by decide +kernel
theorem w52_27 : Wp d 52 27 [l0, l1, some (.int x)] st h Q = Wp d 52 28 [l0, l1, some (.int x)] (.int x :: st) h Q := W_go f52_27 rfl
theorem f52_28 : fetch 52 28 = some (.aload_n 0, 1, [], .null) := by decide +kernel
theorem w52_28 : Wp d 52 28 [some (.ref a), l1, l2] st h Q = Wp d 52 29 [some (.ref a), l1, l2] (.ref a :: st) h Q := W_go f52_28 rfl
theorem f52_29 : fetch 52 29 = some (.getfield 23, 3, [6, 0, 2119, 0], .null) := by decide +kernel
theorem w52_29 : Wp d 52 29 [l0, l1, l2] (.ref a :: st) h Q = gP (h.2 a) 6 0 (fun w => Wp d 52 32 [l0, l1, l2] (w :: st) h Q) := W_get f52_29 rfl
theorem f52_32 : fetch 52 32 = some (.getfield 43, 3, [0, 0, 1055, 0], .null) := by decide +kernel
theorem w52_32 : Wp d 52 32 [l0, l1, l2] (.ref a :: st) h Q = gP (h.2 a) 0 0 (fun w => Wp d 52 35 [l0, l1, l2] (w :: st) h Q) := W_get f52_32 rfl
theorem f52_35 : fetch 52 35 = some (.if_icmp .ge 49, 3, [], .null) := by decide +kernel
theorem w52_35 : Wp d 52 35 [l0, l1, l2] (.int y :: .int x :: st) h Q = if icond .ge x y = true then Wp d 52 84 [l0, l1, l2] st h Q else Wp d 52 38 [l0, l1, l2] st h Q := W_if f52_35 rfl
theorem f52_38 : fetch 52 38 = some (.iload_n 2, 1, [], .null) := by decide +kernel
theorem w52_38 : Wp d 52 38 [l0, l1, some (.int x)] st h Q = Wp d 52 39 [l0, l1, some (.int x)] (.int x :: st) h Q := W_go f52_38 rfl
theorem f52_39 : fetch 52 39 = some (.aload_n 0, 1, [], .null) := by decide +kernel
theorem w52_39 : Wp d 52 39 [some (.ref a), l1, l2] st h Q = Wp d 52 40 [some (.ref a), l1, l2] (.ref a :: st) h Q := W_go f52_39 rfl
theorem f52_40 : fetch 52 40 = some (.getfield 11, 3, [6, 1, 2121, 0], .null) := by decide +kernel
theorem w52_40 : Wp d 52 40 [l0, l1, l2] (.ref a :: st) h Q = gP (h.2 a) 6 1 (fun w => Wp d 52 43 [l0, l1, l2] (w :: st) h Q) := W_get f52_40 rfl
theorem f52_43 : fetch 52 43 = some (.arraylength, 1, [], .null) := by decide +kernel
theorem w52_43 : Wp d 52 43 [l0, l1, l2] (.ref a :: st) h Q = nP (h.2 a) (fun w => Wp d 52 44 [l0, l1, l2] (.int w :: st) h Q) := W_len f52_43 rfl
theorem f52_44 : fetch 52 44 = some (.if_icmp .ge 40, 3, [], .null) := by decide +kernel
theorem w52_44 : Wp d 52 44 [l0, l1, l2] (.int y :: .int x :: st) h Q = if icond .ge x y = true then Wp d 52 84 [l0, l1, l2] st h Q else Wp d 52 47 [l0, l1, l2] st h Q := W_if f52_44 rfl
theorem f52_47 : fetch 52 47 = some (.aload_n 0, 1, [], .null) := by decide +kernel
theorem w52_47 : Wp d 52 47 [some (.ref a), l1, l2] st h Q = Wp d 52 48 [some (.ref a), l1, l2] (.ref a :: st) h Q := W_go f52_47 rfl
theorem f52_48 : fetch 52 48 = some (.getfield 11, 3, [6, 1, 2121, 0], .null) := by decide +kernel
theorem w52_48 : Wp d 52 48 [l0, l1, l2] (.ref a :: st) h Q = gP (h.2 a) 6 1 (fun w => Wp d 52 51 [l0, l1, l2] (w :: st) h Q) := W_get f52_48 rfl
theorem f52_51 : fetch 52 51 = some (.iload_n 2, 1, [], .null) := by decide +kernel
theorem w52_51 : Wp d 52 51 [l0, l1, some (.int x)] st h Q = Wp d 52 52 [l0, l1, some (.int x)] (.int x :: st) h Q := W_go f52_51 rfl
theorem f52_52 : fetch 52 52 = some (.aaload, 1, [], .null) := by decide +kernel
theorem w52_52 : Wp d 52 52 [l0, l1, l2] (.int x :: .ref a :: st) h Q = qP (h.2 a) x (fun w => Wp d 52 53 [l0, l1, l2] (w :: st) h Q) := W_qld f52_52 rfl
theorem f52_53 : fetch 52 53 = some (.aload_n 0, 1, [], .null) := by decide +kernel
theorem w52_53 : Wp d 52 53 [some (.ref a), l1, l2] st h Q = Wp d 52 54 [some (.ref a), l1, l2] (.ref a :: st) h Q := W_go f52_53 rfl
theorem f52_54 : fetch 52 54 = some (.getfield 23, 3, [6, 0, 2119, 0], .null) := by decide +kernel
theorem w52_54 : Wp d 52 54 [l0, l1, l2] (.ref a :: st) h Q = gP (h.2 a) 6 0 (fun w => Wp d 52 57 [l0, l1, l2] (w :: st) h Q) := W_get f52_54 rfl
theorem f52_57 : fetch 52 57 = some (.getfield 48, 3, [0, 4, 1067, 0], .null) := by decide +kernel
theorem w52_57 : Wp d 52 57 [l0, l1, l2] (.ref a :: st) h Q = gP (h.2 a) 0 4 (fun w => Wp d 52 60 [l0, l1, l2] (w :: st) h Q) := W_get f52_57 rfl
theorem f52_60 : fetch 52 60 = some (.iload_n 2, 1, [], .null) := by decide +kernel
theorem w52_60 : Wp d 52 60 [l0, l1, some (.int x)] st h Q = Wp d 52 61 [l0, l1, some (.int x)] (.int x :: st) h Q := W_go f52_60 rfl
theorem f52_61 : fetch 52 61 = some (.invokestatic 52, 3, [115, 2, 0, 1, 3115, 1001, 3117, 3116], .null) := by decide +kernel
theorem w52_61 (hp : psum st ≤ 8) : Wp d 52 61 [l0, l1, l2] (v1 :: v0 :: st) h Q = Cp d 115 [v0, v1] h (fun o => cK o (fun w h2 => Wp d 52 64 [l0, l1, l2] (w.toList ++ st) h2 Q) (fun _ _ => False)) := (W_invS (st := st) f52_61 rfl rfl (by simp only [List.length_cons]; omega) rfl rfl hp)
theorem f52_64 : fetch 52 64 = some (.aload_n 0, 1, [], .null) := by decide +kernel
theorem w52_64 : Wp d 52 64 [some (.ref a), l1, l2] st h Q = Wp d 52 65 [some (.ref a), l1, l2] (.ref a :: st) h Q := W_go f52_64 rfl
theorem f52_65 : fetch 52 65 = some (.getfield 23, 3, [6, 0, 2119, 0], .null) := by decide +kernel
theorem w52_65 : Wp d 52 65 [l0, l1, l2] (.ref a :: st) h Q = gP (h.2 a) 6 0 (fun w => Wp d 52 68 [l0, l1, l2] (w :: st) h Q) := W_get f52_65 rfl
theorem f52_68 : fetch 52 68 = some (.getfield 56, 3, [0, 5, 1070, 0], .null) := by decide +kernel
theorem w52_68 : Wp d 52 68 [l0, l1, l2] (.ref a :: st) h Q = gP (h.2 a) 0 5 (fun w => Wp d 52 71 [l0, l1, l2] (w :: st) h Q) := W_get f52_68 rfl
theorem f52_71 : fetch 52 71 = some (.iload_n 2, 1, [], .null) := by decide +kernel
theorem w52_71 : Wp d 52 71 [l0, l1, some (.int x)] st h Q = Wp d 52 72 [l0, l1, some (.int x)] (.int x :: st) h Q := W_go f52_71 rfl
theorem f52_72 : fetch 52 72 = some (.invokestatic 52, 3, [115, 2, 0, 1, 3115, 1001, 3117, 3116], .null) := by decide +kernel
theorem w52_72 (hp : psum st ≤ 8) : Wp d 52 72 [l0, l1, l2] (v1 :: v0 :: st) h Q = Cp d 115 [v0, v1] h (fun o => cK o (fun w h2 => Wp d 52 75 [l0, l1, l2] (w.toList ++ st) h2 Q) (fun _ _ => False)) := (W_invS (st := st) f52_72 rfl rfl (by simp only [List.length_cons]; omega) rfl rfl hp)
theorem f52_75 : fetch 52 75 = some (.invokevirtual 59, 3, [3, 3, 2, 0, 3118, 1011, 3121, 3119, 3120], .null) := by decide +kernel
theorem w52_75 (hp : psum st ≤ 8) : Wp d 52 75 [l0, l1, l2] (v2 :: v1 :: (.ref b) :: st) h Q = rP (h.2 b) 1 (Cp d 3 [(.ref b), v1, v2] h (fun o => cK o (fun w h2 => Wp d 52 78 [l0, l1, l2] (w.toList ++ st) h2 Q) (fun E h2 => Q (.inr E, h2)))) := (W_invV (st := st) f52_75 rfl rfl (by simp only [List.length_cons]; omega) rfl rfl hp).trans (by simp only [hm52, if_true])
theorem f52_78 : fetch 52 78 = some (.iinc 2 1, 3, [], .null) := by decide +kernel
theorem w52_78 : Wp d 52 78 [l0, l1, some (.int x)] st h Q = Wp d 52 81 [l0, kl l1, some (.int (x + (1 : Int32)))] st h Q := (W_iinc (y := (1 : Int32)) f52_78 rfl (by simp only [List.length_cons, List.length_nil]; omega) (by decide)).trans (by rw [pst1_succ]; rfl)
theorem f52_81 : fetch 52 81 = some (.goto (-54), 3, [], .null) := by decide +kernel
theorem w52_81 : Wp d 52 81 [l0, l1, l2] st h Q = Wp d 52 27 [l0, l1, l2] st h Q := W_go f52_81 rfl
theorem f52_84 : fetch 52 84 = some (.iconst 0, 1, [], .null) := by decide +kernel
theorem w52_84 : Wp d 52 84 [l0, l1, l2] st h Q = Wp d 52 85 [l0, l1, l2] (.int (0 : Int32) :: st) h Q := W_go f52_84 rfl
theorem f52_85 : fetch 52 85 = some (.istore_n 2, 1, [], .null) := by decide +kernel
theorem w52_85 : Wp d 52 85 [l0, l1, l2] (.int x :: st) h Q = Wp d 52 86 [l0, kl l1, some (.int x)] st h Q := (W_st1 (pc' := 86) (k := 2) f52_85 rfl rfl (by simp only [List.length_cons, List.length_nil]; omega)).trans (by rw [pst1_succ]; rfl)
theorem f52_86 : fetch 52 86 = some (.iload_n 2, 1, [], .null) := by decide +kernel
theorem w52_86 : Wp d 52 86 [l0, l1, some (.int x)] st h Q = Wp d 52 87 [l0, l1, some (.int x)] (.int x :: st) h Q := W_go f52_86 rfl
theorem f52_87 : fetch 52 87 = some (.aload_n 0, 1, [], .null) := by decide +kernel
theorem w52_87 : Wp d 52 87 [some (.ref a), l1, l2] st h Q = Wp d 52 88 [some (.ref a), l1, l2] (.ref a :: st) h Q := W_go f52_87 rfl
theorem f52_88 : fetch 52 88 = some (.getfield 63, 3, [6, 3, 2125, 0], .null) := by decide +kernel
theorem w52_88 : Wp d 52 88 [l0, l1, l2] (.ref a :: st) h Q = gP (h.2 a) 6 3 (fun w => Wp d 52 91 [l0, l1, l2] (w :: st) h Q) := W_get f52_88 rfl
theorem f52_91 : fetch 52 91 = some (.if_icmp .ge 36, 3, [], .null) := by decide +kernel
theorem w52_91 : Wp d 52 91 [l0, l1, l2] (.int y :: .int x :: st) h Q = if icond .ge x y = true then Wp d 52 127 [l0, l1, l2] st h Q else Wp d 52 94 [l0, l1, l2] st h Q := W_if f52_91 rfl
theorem f52_94 : fetch 52 94 = some (.iload_n 2, 1, [], .null) := by decide +kernel
theorem w52_94 : Wp d 52 94 [l0, l1, some (.int x)] st h Q = Wp d 52 95 [l0, l1, some (.int x)] (.int x :: st) h Q := W_go f52_94 rfl
theorem f52_95 : fetch 52 95 = some (.aload_n 0, 1, [], .null) := by decide +kernel
theorem w52_95 : Wp d 52 95 [some (.ref a), l1, l2] st h Q = Wp d 52 96 [some (.ref a), l1, l2] (.ref a :: st) h Q := W_go f52_95 rfl
theorem f52_96 : fetch 52 96 = some (.getfield 19, 3, [6, 2, 2123, 0], .null) := by decide +kernel
theorem w52_96 : Wp d 52 96 [l0, l1, l2] (.ref a :: st) h Q = gP (h.2 a) 6 2 (fun w => Wp d 52 99 [l0, l1, l2] (w :: st) h Q) := W_get f52_96 rfl
theorem f52_99 : fetch 52 99 = some (.arraylength, 1, [], .null) := by decide +kernel
theorem w52_99 : Wp d 52 99 [l0, l1, l2] (.ref a :: st) h Q = nP (h.2 a) (fun w => Wp d 52 100 [l0, l1, l2] (.int w :: st) h Q) := W_len f52_99 rfl
theorem f52_100 : fetch 52 100 = some (.if_icmp .ge 27, 3, [], .null) := by decide +kernel
theorem w52_100 : Wp d 52 100 [l0, l1, l2] (.int y :: .int x :: st) h Q = if icond .ge x y = true then Wp d 52 127 [l0, l1, l2] st h Q else Wp d 52 103 [l0, l1, l2] st h Q := W_if f52_100 rfl
theorem f52_103 : fetch 52 103 = some (.aload_n 0, 1, [], .null) := by decide +kernel
theorem w52_103 : Wp d 52 103 [some (.ref a), l1, l2] st h Q = Wp d 52 104 [some (.ref a), l1, l2] (.ref a :: st) h Q := W_go f52_103 rfl
theorem f52_104 : fetch 52 104 = some (.getfield 19, 3, [6, 2, 2123, 0], .null) := by decide +kernel
theorem w52_104 : Wp d 52 104 [l0, l1, l2] (.ref a :: st) h Q = gP (h.2 a) 6 2 (fun w => Wp d 52 107 [l0, l1, l2] (w :: st) h Q) := W_get f52_104 rfl
theorem f52_107 : fetch 52 107 = some (.iload_n 2, 1, [], .null) := by decide +kernel
theorem w52_107 : Wp d 52 107 [l0, l1, some (.int x)] st h Q = Wp d 52 108 [l0, l1, some (.int x)] (.int x :: st) h Q := W_go f52_107 rfl
theorem f52_108 : fetch 52 108 = some (.aaload, 1, [], .null) := by decide +kernel
theorem w52_108 : Wp d 52 108 [l0, l1, l2] (.int x :: .ref a :: st) h Q = qP (h.2 a) x (fun w => Wp d 52 109 [l0, l1, l2] (w :: st) h Q) := W_qld f52_108 rfl
theorem f52_109 : fetch 52 109 = some (.aload_n 0, 1, [], .null) := by decide +kernel
theorem w52_109 : Wp d 52 109 [some (.ref a), l1, l2] st h Q = Wp d 52 110 [some (.ref a), l1, l2] (.ref a :: st) h Q := W_go f52_109 rfl
theorem f52_110 : fetch 52 110 = some (.getfield 19, 3, [6, 2, 2123, 0], .null) := by decide +kernel
theorem w52_110 : Wp d 52 110 [l0, l1, l2] (.ref a :: st) h Q = gP (h.2 a) 6 2 (fun w => Wp d 52 113 [l0, l1, l2] (w :: st) h Q) := W_get f52_110 rfl
theorem f52_113 : fetch 52 113 = some (.iload_n 2, 1, [], .null) := by decide +kernel
theorem w52_113 : Wp d 52 113 [l0, l1, some (.int x)] st h Q = Wp d 52 114 [l0, l1, some (.int x)] (.int x :: st) h Q := W_go f52_113 rfl
theorem f52_114 : fetch 52 114 = some (.aaload, 1, [], .null) := by decide +kernel
theorem w52_114 : Wp d 52 114 [l0, l1, l2] (.int x :: .ref a :: st) h Q = qP (h.2 a) x (fun w => Wp d 52 115 [l0, l1, l2] (w :: st) h Q) := W_qld f52_114 rfl
theorem f52_115 : fetch 52 115 = some (.getfield 66, 3, [2, 0, 2072, 0], .null) := by decide +kernel
theorem w52_115 : Wp d 52 115 [l0, l1, l2] (.ref a :: st) h Q = gP (h.2 a) 2 0 (fun w => Wp d 52 118 [l0, l1, l2] (w :: st) h Q) := W_get f52_115 rfl
theorem f52_118 : fetch 52 118 = some (.invokevirtual 69, 3, [9, 2, 3, 0, 3122, 1012, 3125, 3123, 3124], .null) := by decide +kernel
theorem w52_118 (hp : psum st ≤ 8) : Wp d 52 118 [l0, l1, l2] (v1 :: (.ref b) :: st) h Q = rP (h.2 b) 2 (Cp d 9 [(.ref b), v1] h (fun o => cK o (fun w h2 => Wp d 52 121 [l0, l1, l2] (w.toList ++ st) h2 Q) (fun E h2 => Q (.inr E, h2)))) := (W_invV (st := st) f52_118 rfl rfl (by simp only [List.length_cons]; omega) rfl rfl hp).trans (by simp only [hm52, if_true])
theorem f52_121 : fetch 52 121 = some (.iinc 2 1, 3, [], .null) := by decide +kernel
theorem w52_121 : Wp d 52 121 [l0, l1, some (.int x)] st h Q = Wp d 52 124 [l0, kl l1, some (.int (x + (1 : Int32)))] st h Q := (W_iinc (y := (1 : Int32)) f52_121 rfl (by simp only [List.length_cons, List.length_nil]; omega) (by decide)).trans (by rw [pst1_succ]; rfl)
theorem f52_124 : fetch 52 124 = some (.goto (-38), 3, [], .null) := by decide +kernel
theorem w52_124 : Wp d 52 124 [l0, l1, l2] st h Q = Wp d 52 86 [l0, l1, l2] st h Q := W_go f52_124 rfl
theorem f52_127 : fetch 52 127 = some (.return_, 1, [], .null) := by decide +kernel
theorem w52_127 : Wp d 52 127 [l0, l1, l2] [] h Q = Q (.inl none, h) := W_fin f52_127 rfl
theorem hm53 : mhs 53 = [] := by decide +kernel
theorem f53_0 : fetch 53 0 = some (.aload_n 0, 1, [], .null) := by decide +kernel
theorem w53_0 : Wp d 53 0 [some (.ref a), l1, l2] st h Q = Wp d 53 1 [some (.ref a), l1, l2] (.ref a :: st) h Q := W_go f53_0 rfl
theorem f53_1 : fetch 53 1 = some (.aload_n 1, 1, [], .null) := by decide +kernel
theorem w53_1 : Wp d 53 1 [l0, some (.ref a), l2] st h Q = Wp d 53 2 [l0, some (.ref a), l2] (.ref a :: st) h Q := W_go f53_1 rfl
theorem f53_2 : fetch 53 2 = some (.getfield 23, 3, [6, 0, 2119, 0], .null) := by decide +kernel
theorem w53_2 : Wp d 53 2 [l0, l1, l2] (.ref a :: st) h Q = gP (h.2 a) 6 0 (fun w => Wp d 53 5 [l0, l1, l2] (w :: st) h Q) := W_get f53_2 rfl
theorem f53_5 : fetch 53 5 = some (.putfield 23, 3, [6, 0, 2119, 0], .null) := by decide +kernel
theorem w53_5 : Wp d 53 5 [l0, l1, l2] (v :: .ref a :: st) h Q = pP (h.2 a) 6 0 (ftOf 6 0) v a (fun c => Wp d 53 8 [l0, l1, l2] st (hset h a c) Q) := W_put f53_5 (by rfl)
theorem f53_8 : fetch 53 8 = some (.aload_n 0, 1, [], .null) := by decide +kernel
theorem w53_8 : Wp d 53 8 [some (.ref a), l1, l2] st h Q = Wp d 53 9 [some (.ref a), l1, l2] (.ref a :: st) h Q := W_go f53_8 rfl
theorem f53_9 : fetch 53 9 = some (.aload_n 1, 1, [], .null) := by decide +kernel
theorem w53_9 : Wp d 53 9 [l0, some (.ref a), l2] st h Q = Wp d 53 10 [l0, some (.ref a), l2] (.ref a :: st) h Q := W_go f53_9 rfl
theorem f53_10 : fetch 53 10 = some (.getfield 63, 3, [6, 3, 2125, 0], .null) := by decide +kernel
theorem w53_10 : Wp d 53 10 [l0, l1, l2] (.ref a :: st) h Q = gP (h.2 a) 6 3 (fun w => Wp d 53 13 [l0, l1, l2] (w :: st) h Q) := W_get f53_10 rfl
theorem f53_13 : fetch 53 13 = some (.putfield 63, 3, [6, 3, 2125, 0], .null) := by decide +kernel
theorem w53_13 : Wp d 53 13 [l0, l1, l2] (v :: .ref a :: st) h Q = pP (h.2 a) 6 3 (ftOf 6 3) v a (fun c => Wp d 53 16 [l0, l1, l2] st (hset h a c) Q) := W_put f53_13 (by rfl)
theorem f53_16 : fetch 53 16 = some (.aload_n 0, 1, [], .null) := by decide +kernel
theorem w53_16 : Wp d 53 16 [some (.ref a), l1, l2] st h Q = Wp d 53 17 [some (.ref a), l1, l2] (.ref a :: st) h Q := W_go f53_16 rfl
theorem f53_17 : fetch 53 17 = some (.aload_n 1, 1, [], .null) := by decide +kernel
theorem w53_17 : Wp d 53 17 [l0, some (.ref a), l2] st h Q = Wp d 53 18 [l0, some (.ref a), l2] (.ref a :: st) h Q := W_go f53_17 rfl
theorem f53_18 : fetch 53 18 = some (.getfield 29, 3, [6, 4, 2127, 0], .null) := by decide +kernel
theorem w53_18 : Wp d 53 18 [l0, l1, l2] (.ref a :: st) h Q = gP (h.2 a) 6 4 (fun w => Wp d 53 21 [l0, l1, l2] (w :: st) h Q) := W_get f53_18 rfl
theorem f53_21 : fetch 53 21 = some (.putfield 29, 3, [6, 4, 2127, 0], .null) := by decide +kernel
theorem w53_21 : Wp d 53 21 [l0, l1, l2] (v :: .ref a :: st) h Q = pP (h.2 a) 6 4 (ftOf 6 4) v a (fun c => Wp d 53 24 [l0, l1, l2] st (hset h a c) Q) := W_put f53_21 (by rfl)
theorem f53_24 : fetch 53 24 = some (.aload_n 0, 1, [], .null) := by decide +kernel
theorem w53_24 : Wp d 53 24 [some (.ref a), l1, l2] st h Q = Wp d 53 25 [some (.ref a), l1, l2] (.ref a :: st) h Q := W_go f53_24 rfl
theorem f53_25 : fetch 53 25 = some (.aload_n 1, 1, [], .null) := by decide +kernel
theorem w53_25 : Wp d 53 25 [l0, some (.ref a), l2] st h Q = Wp d 53 26 [l0, some (.ref a), l2] (.ref a :: st) h Q := W_go f53_25 rfl
theorem f53_26 : fetch 53 26 = some (.getfield 33, 3, [6, 5, 2129, 0], .null) := by decide +kernel
theorem w53_26 : Wp d 53 26 [l0, l1, l2] (.ref a :: st) h Q = gP (h.2 a) 6 5 (fun w => Wp d 53 29 [l0, l1, l2] (w :: st) h Q) := W_get f53_26 rfl
theorem f53_29 : fetch 53 29 = some (.putfield 33, 3, [6, 5, 2129, 0], .null) := by decide +kernel
theorem w53_29 : Wp d 53 29 [l0, l1, l2] (v :: .ref a :: st) h Q = pP (h.2 a) 6 5 (ftOf 6 5) v a (fun c => Wp d 53 32 [l0, l1, l2] st (hset h a c) Q) := W_put f53_29 (by rfl)
theorem f53_32 : fetch 53 32 = some (.aload_n 0, 1, [], .null) := by decide +kernel
theorem w53_32 : Wp d 53 32 [some (.ref a), l1, l2] st h Q = Wp d 53 33 [some (.ref a), l1, l2] (.ref a :: st) h Q := W_go f53_32 rfl
theorem f53_33 : fetch 53 33 = some (.aload_n 1, 1, [], .null) := by decide +kernel
theorem w53_33 : Wp d 53 33 [l0, some (.ref a), l2] st h Q = Wp d 53 34 [l0, some (.ref a), l2] (.ref a :: st) h Q := W_go f53_33 rfl
theorem f53_34 : fetch 53 34 = some (.getfield 36, 3, [6, 6, 2131, 0], .null) := by decide +kernel
theorem w53_34 : Wp d 53 34 [l0, l1, l2] (.ref a :: st) h Q = gP (h.2 a) 6 6 (fun w => Wp d 53 37 [l0, l1, l2] (w :: st) h Q) := W_get f53_34 rfl
theorem f53_37 : fetch 53 37 = some (.putfield 36, 3, [6, 6, 2131, 0], .null) := by decide +kernel
theorem w53_37 : Wp d 53 37 [l0, l1, l2] (v :: .ref a :: st) h Q = pP (h.2 a) 6 6 (ftOf 6 6) v a (fun c => Wp d 53 40 [l0, l1, l2] st (hset h a c) Q) := W_put f53_37 (by rfl)
theorem f53_40 : fetch 53 40 = some (.aload_n 0, 1, [], .null) := by decide +kernel
theorem w53_40 : Wp d 53 40 [some (.ref a), l1, l2] st h Q = Wp d 53 41 [some (.ref a), l1, l2] (.ref a :: st) h Q := W_go f53_40 rfl
theorem f53_41 : fetch 53 41 = some (.aload_n 1, 1, [], .null) := by decide +kernel
theorem w53_41 : Wp d 53 41 [l0, some (.ref a), l2] st h Q = Wp d 53 42 [l0, some (.ref a), l2] (.ref a :: st) h Q := W_go f53_41 rfl
theorem f53_42 : fetch 53 42 = some (.getfield 39, 3, [6, 7, 2133, 0], .null) := by decide +kernel
theorem w53_42 : Wp d 53 42 [l0, l1, l2] (.ref a :: st) h Q = gP (h.2 a) 6 7 (fun w => Wp d 53 45 [l0, l1, l2] (w :: st) h Q) := W_get f53_42 rfl
theorem f53_45 : fetch 53 45 = some (.putfield 39, 3, [6, 7, 2133, 0], .null) := by decide +kernel
theorem w53_45 : Wp d 53 45 [l0, l1, l2] (v :: .ref a :: st) h Q = pP (h.2 a) 6 7 (ftOf 6 7) v a (fun c => Wp d 53 48 [l0, l1, l2] st (hset h a c) Q) := W_put f53_45 (by rfl)
theorem f53_48 : fetch 53 48 = some (.iconst 0, 1, [], .null) := by decide +kernel
theorem w53_48 : Wp d 53 48 [l0, l1, l2] st h Q = Wp d 53 49 [l0, l1, l2] (.int (0 : Int32) :: st) h Q := W_go f53_48 rfl
theorem f53_49 : fetch 53 49 = some (.istore_n 2, 1, [], .null) := by decide +kernel
theorem w53_49 : Wp d 53 49 [l0, l1, l2] (.int x :: st) h Q = Wp d 53 50 [l0, kl l1, some (.int x)] st h Q := (W_st1 (pc' := 50) (k := 2) f53_49 rfl rfl (by simp only [List.length_cons, List.length_nil]; omega)).trans (by rw [pst1_succ]; rfl)
theorem f53_50 : fetch 53 50 = some (.iload_n 2, 1, [], .null) := by decide +kernel
theorem w53_50 : Wp d 53 50 [l0, l1, some (.int x)] st h Q = Wp d 53 51 [l0, l1, some (.int x)] (.int x :: st) h Q := W_go f53_50 rfl
theorem f53_51 : fetch 53 51 = some (.aload_n 0, 1, [], .null) := by decide +kernel
theorem w53_51 : Wp d 53 51 [some (.ref a), l1, l2] st h Q = Wp d 53 52 [some (.ref a), l1, l2] (.ref a :: st) h Q := W_go f53_51 rfl
theorem f53_52 : fetch 53 52 = some (.getfield 23, 3, [6, 0, 2119, 0], .null) := by decide +kernel
theorem w53_52 : Wp d 53 52 [l0, l1, l2] (.ref a :: st) h Q = gP (h.2 a) 6 0 (fun w => Wp d 53 55 [l0, l1, l2] (w :: st) h Q) := W_get f53_52 rfl
theorem f53_55 : fetch 53 55 = some (.getfield 43, 3, [0, 0, 1055, 0], .null) := by decide +kernel
theorem w53_55 : Wp d 53 55 [l0, l1, l2] (.ref a :: st) h Q = gP (h.2 a) 0 0 (fun w => Wp d 53 58 [l0, l1, l2] (w :: st) h Q) := W_get f53_55 rfl
theorem f53_58 : fetch 53 58 = some (.if_icmp .ge 42, 3, [], .null) := by decide +kernel
theorem w53_58 : Wp d 53 58 [l0, l1, l2] (.int y :: .int x :: st) h Q = if icond .ge x y = true then Wp d 53 100 [l0, l1, l2] st h Q else Wp d 53 61 [l0, l1, l2] st h Q := W_if f53_58 rfl
theorem f53_61 : fetch 53 61 = some (.iload_n 2, 1, [], .null) := by decide +kernel
theorem w53_61 : Wp d 53 61 [l0, l1, some (.int x)] st h Q = Wp d 53 62 [l0, l1, some (.int x)] (.int x :: st) h Q := W_go f53_61 rfl
theorem f53_62 : fetch 53 62 = some (.aload_n 0, 1, [], .null) := by decide +kernel
theorem w53_62 : Wp d 53 62 [some (.ref a), l1, l2] st h Q = Wp d 53 63 [some (.ref a), l1, l2] (.ref a :: st) h Q := W_go f53_62 rfl
theorem f53_63 : fetch 53 63 = some (.getfield 11, 3, [6, 1, 2121, 0], .null) := by decide +kernel
theorem w53_63 : Wp d 53 63 [l0, l1, l2] (.ref a :: st) h Q = gP (h.2 a) 6 1 (fun w => Wp d 53 66 [l0, l1, l2] (w :: st) h Q) := W_get f53_63 rfl
theorem f53_66 : fetch 53 66 = some (.arraylength, 1, [], .null) := by decide +kernel
theorem w53_66 : Wp d 53 66 [l0, l1, l2] (.ref a :: st) h Q = nP (h.2 a) (fun w => Wp d 53 67 [l0, l1, l2] (.int w :: st) h Q) := W_len f53_66 rfl
theorem f53_67 : fetch 53 67 = some (.if_icmp .ge 33, 3, [], .null) := by decide +kernel
theorem w53_67 : Wp d 53 67 [l0, l1, l2] (.int y :: .int x :: st) h Q = if icond .ge x y = true then Wp d 53 100 [l0, l1, l2] st h Q else Wp d 53 70 [l0, l1, l2] st h Q := W_if f53_67 rfl
theorem f53_70 : fetch 53 70 = some (.iload_n 2, 1, [], .null) := by decide +kernel
theorem w53_70 : Wp d 53 70 [l0, l1, some (.int x)] st h Q = Wp d 53 71 [l0, l1, some (.int x)] (.int x :: st) h Q := W_go f53_70 rfl
theorem f53_71 : fetch 53 71 = some (.aload_n 1, 1, [], .null) := by decide +kernel
theorem w53_71 : Wp d 53 71 [l0, some (.ref a), l2] st h Q = Wp d 53 72 [l0, some (.ref a), l2] (.ref a :: st) h Q := W_go f53_71 rfl
theorem f53_72 : fetch 53 72 = some (.getfield 11, 3, [6, 1, 2121, 0], .null) := by decide +kernel
theorem w53_72 : Wp d 53 72 [l0, l1, l2] (.ref a :: st) h Q = gP (h.2 a) 6 1 (fun w => Wp d 53 75 [l0, l1, l2] (w :: st) h Q) := W_get f53_72 rfl
theorem f53_75 : fetch 53 75 = some (.arraylength, 1, [], .null) := by decide +kernel
theorem w53_75 : Wp d 53 75 [l0, l1, l2] (.ref a :: st) h Q = nP (h.2 a) (fun w => Wp d 53 76 [l0, l1, l2] (.int w :: st) h Q) := W_len f53_75 rfl
theorem f53_76 : fetch 53 76 = some (.if_icmp .ge 24, 3, [], .null) := by decide +kernel
theorem w53_76 : Wp d 53 76 [l0, l1, l2] (.int y :: .int x :: st) h Q = if icond .ge x y = true then Wp d 53 100 [l0, l1, l2] st h Q else Wp d 53 79 [l0, l1, l2] st h Q := W_if f53_76 rfl
theorem f53_79 : fetch 53 79 = some (.aload_n 0, 1, [], .null) := by decide +kernel
theorem w53_79 : Wp d 53 79 [some (.ref a), l1, l2] st h Q = Wp d 53 80 [some (.ref a), l1, l2] (.ref a :: st) h Q := W_go f53_79 rfl
theorem f53_80 : fetch 53 80 = some (.getfield 11, 3, [6, 1, 2121, 0], .null) := by decide +kernel
theorem w53_80 : Wp d 53 80 [l0, l1, l2] (.ref a :: st) h Q = gP (h.2 a) 6 1 (fun w => Wp d 53 83 [l0, l1, l2] (w :: st) h Q) := W_get f53_80 rfl
theorem f53_83 : fetch 53 83 = some (.iload_n 2, 1, [], .null) := by decide +kernel
theorem w53_83 : Wp d 53 83 [l0, l1, some (.int x)] st h Q = Wp d 53 84 [l0, l1, some (.int x)] (.int x :: st) h Q := W_go f53_83 rfl
theorem f53_84 : fetch 53 84 = some (.aaload, 1, [], .null) := by decide +kernel
theorem w53_84 : Wp d 53 84 [l0, l1, l2] (.int x :: .ref a :: st) h Q = qP (h.2 a) x (fun w => Wp d 53 85 [l0, l1, l2] (w :: st) h Q) := W_qld f53_84 rfl
theorem f53_85 : fetch 53 85 = some (.aload_n 1, 1, [], .null) := by decide +kernel
theorem w53_85 : Wp d 53 85 [l0, some (.ref a), l2] st h Q = Wp d 53 86 [l0, some (.ref a), l2] (.ref a :: st) h Q := W_go f53_85 rfl
theorem f53_86 : fetch 53 86 = some (.getfield 11, 3, [6, 1, 2121, 0], .null) := by decide +kernel
theorem w53_86 : Wp d 53 86 [l0, l1, l2] (.ref a :: st) h Q = gP (h.2 a) 6 1 (fun w => Wp d 53 89 [l0, l1, l2] (w :: st) h Q) := W_get f53_86 rfl
theorem f53_89 : fetch 53 89 = some (.iload_n 2, 1, [], .null) := by decide +kernel
theorem w53_89 : Wp d 53 89 [l0, l1, some (.int x)] st h Q = Wp d 53 90 [l0, l1, some (.int x)] (.int x :: st) h Q := W_go f53_89 rfl
theorem f53_90 : fetch 53 90 = some (.aaload, 1, [], .null) := by decide +kernel
theorem w53_90 : Wp d 53 90 [l0, l1, l2] (.int x :: .ref a :: st) h Q = qP (h.2 a) x (fun w => Wp d 53 91 [l0, l1, l2] (w :: st) h Q) := W_qld f53_90 rfl
theorem f53_91 : fetch 53 91 = some (.invokevirtual 72, 3, [4, 2, 2, 0, 5137, 1011, 5140, 5138, 5139], .null) := by decide +kernel
theorem w53_91 (hp : psum st ≤ 8) : Wp d 53 91 [l0, l1, l2] (v1 :: (.ref b) :: st) h Q = rP (h.2 b) 1 (Cp d 4 [(.ref b), v1] h (fun o => cK o (fun w h2 => Wp d 53 94 [l0, l1, l2] (w.toList ++ st) h2 Q) (fun E h2 => Q (.inr E, h2)))) := (W_invV (st := st) f53_91 rfl rfl (by simp only [List.length_cons]; omega) rfl rfl hp).trans (by simp only [hm53, if_true])
theorem f53_94 : fetch 53 94 = some (.iinc 2 1, 3, [], .null) := by decide +kernel
theorem w53_94 : Wp d 53 94 [l0, l1, some (.int x)] st h Q = Wp d 53 97 [l0, kl l1, some (.int (x + (1 : Int32)))] st h Q := (W_iinc (y := (1 : Int32)) f53_94 rfl (by simp only [List.length_cons, List.length_nil]; omega) (by decide)).trans (by rw [pst1_succ]; rfl)
theorem f53_97 : fetch 53 97 = some (.goto (-47), 3, [], .null) := by decide +kernel
theorem w53_97 : Wp d 53 97 [l0, l1, l2] st h Q = Wp d 53 50 [l0, l1, l2] st h Q := W_go f53_97 rfl
theorem f53_100 : fetch 53 100 = some (.iconst 0, 1, [], .null) := by decide +kernel
theorem w53_100 : Wp d 53 100 [l0, l1, l2] st h Q = Wp d 53 101 [l0, l1, l2] (.int (0 : Int32) :: st) h Q := W_go f53_100 rfl
theorem f53_101 : fetch 53 101 = some (.istore_n 2, 1, [], .null) := by decide +kernel
theorem w53_101 : Wp d 53 101 [l0, l1, l2] (.int x :: st) h Q = Wp d 53 102 [l0, kl l1, some (.int x)] st h Q := (W_st1 (pc' := 102) (k := 2) f53_101 rfl rfl (by simp only [List.length_cons, List.length_nil]; omega)).trans (by rw [pst1_succ]; rfl)
theorem f53_102 : fetch 53 102 = some (.iload_n 2, 1, [], .null) := by decide +kernel
theorem w53_102 : Wp d 53 102 [l0, l1, some (.int x)] st h Q = Wp d 53 103 [l0, l1, some (.int x)] (.int x :: st) h Q := W_go f53_102 rfl
theorem f53_103 : fetch 53 103 = some (.aload_n 0, 1, [], .null) := by decide +kernel
theorem w53_103 : Wp d 53 103 [some (.ref a), l1, l2] st h Q = Wp d 53 104 [some (.ref a), l1, l2] (.ref a :: st) h Q := W_go f53_103 rfl
theorem f53_104 : fetch 53 104 = some (.getfield 63, 3, [6, 3, 2125, 0], .null) := by decide +kernel
theorem w53_104 : Wp d 53 104 [l0, l1, l2] (.ref a :: st) h Q = gP (h.2 a) 6 3 (fun w => Wp d 53 107 [l0, l1, l2] (w :: st) h Q) := W_get f53_104 rfl
theorem f53_107 : fetch 53 107 = some (.if_icmp .ge 42, 3, [], .null) := by decide +kernel
theorem w53_107 : Wp d 53 107 [l0, l1, l2] (.int y :: .int x :: st) h Q = if icond .ge x y = true then Wp d 53 149 [l0, l1, l2] st h Q else Wp d 53 110 [l0, l1, l2] st h Q := W_if f53_107 rfl
theorem f53_110 : fetch 53 110 = some (.iload_n 2, 1, [], .null) := by decide +kernel
theorem w53_110 : Wp d 53 110 [l0, l1, some (.int x)] st h Q = Wp d 53 111 [l0, l1, some (.int x)] (.int x :: st) h Q := W_go f53_110 rfl
theorem f53_111 : fetch 53 111 = some (.aload_n 0, 1, [], .null) := by decide +kernel
theorem w53_111 : Wp d 53 111 [some (.ref a), l1, l2] st h Q = Wp d 53 112 [some (.ref a), l1, l2] (.ref a :: st) h Q := W_go f53_111 rfl
theorem f53_112 : fetch 53 112 = some (.getfield 19, 3, [6, 2, 2123, 0], .null) := by decide +kernel
theorem w53_112 : Wp d 53 112 [l0, l1, l2] (.ref a :: st) h Q = gP (h.2 a) 6 2 (fun w => Wp d 53 115 [l0, l1, l2] (w :: st) h Q) := W_get f53_112 rfl
theorem f53_115 : fetch 53 115 = some (.arraylength, 1, [], .null) := by decide +kernel
theorem w53_115 : Wp d 53 115 [l0, l1, l2] (.ref a :: st) h Q = nP (h.2 a) (fun w => Wp d 53 116 [l0, l1, l2] (.int w :: st) h Q) := W_len f53_115 rfl
theorem f53_116 : fetch 53 116 = some (.if_icmp .ge 33, 3, [], .null) := by decide +kernel
theorem w53_116 : Wp d 53 116 [l0, l1, l2] (.int y :: .int x :: st) h Q = if icond .ge x y = true then Wp d 53 149 [l0, l1, l2] st h Q else Wp d 53 119 [l0, l1, l2] st h Q := W_if f53_116 rfl
theorem f53_119 : fetch 53 119 = some (.iload_n 2, 1, [], .null) := by decide +kernel
theorem w53_119 : Wp d 53 119 [l0, l1, some (.int x)] st h Q = Wp d 53 120 [l0, l1, some (.int x)] (.int x :: st) h Q := W_go f53_119 rfl
theorem f53_120 : fetch 53 120 = some (.aload_n 1, 1, [], .null) := by decide +kernel
theorem w53_120 : Wp d 53 120 [l0, some (.ref a), l2] st h Q = Wp d 53 121 [l0, some (.ref a), l2] (.ref a :: st) h Q := W_go f53_120 rfl
theorem f53_121 : fetch 53 121 = some (.getfield 19, 3, [6, 2, 2123, 0], .null) := by decide +kernel
theorem w53_121 : Wp d 53 121 [l0, l1, l2] (.ref a :: st) h Q = gP (h.2 a) 6 2 (fun w => Wp d 53 124 [l0, l1, l2] (w :: st) h Q) := W_get f53_121 rfl
theorem f53_124 : fetch 53 124 = some (.arraylength, 1, [], .null) := by decide +kernel
theorem w53_124 : Wp d 53 124 [l0, l1, l2] (.ref a :: st) h Q = nP (h.2 a) (fun w => Wp d 53 125 [l0, l1, l2] (.int w :: st) h Q) := W_len f53_124 rfl
theorem f53_125 : fetch 53 125 = some (.if_icmp .ge 24, 3, [], .null) := by decide +kernel
theorem w53_125 : Wp d 53 125 [l0, l1, l2] (.int y :: .int x :: st) h Q = if icond .ge x y = true then Wp d 53 149 [l0, l1, l2] st h Q else Wp d 53 128 [l0, l1, l2] st h Q := W_if f53_125 rfl
theorem f53_128 : fetch 53 128 = some (.aload_n 0, 1, [], .null) := by decide +kernel
theorem w53_128 : Wp d 53 128 [some (.ref a), l1, l2] st h Q = Wp d 53 129 [some (.ref a), l1, l2] (.ref a :: st) h Q := W_go f53_128 rfl
theorem f53_129 : fetch 53 129 = some (.getfield 19, 3, [6, 2, 2123, 0], .null) := by decide +kernel
theorem w53_129 : Wp d 53 129 [l0, l1, l2] (.ref a :: st) h Q = gP (h.2 a) 6 2 (fun w => Wp d 53 132 [l0, l1, l2] (w :: st) h Q) := W_get f53_129 rfl
theorem f53_132 : fetch 53 132 = some (.iload_n 2, 1, [], .null) := by decide +kernel
theorem w53_132 : Wp d 53 132 [l0, l1, some (.int x)] st h Q = Wp d 53 133 [l0, l1, some (.int x)] (.int x :: st) h Q := W_go f53_132 rfl
theorem f53_133 : fetch 53 133 = some (.aaload, 1, [], .null) := by decide +kernel
theorem w53_133 : Wp d 53 133 [l0, l1, l2] (.int x :: .ref a :: st) h Q = qP (h.2 a) x (fun w => Wp d 53 134 [l0, l1, l2] (w :: st) h Q) := W_qld f53_133 rfl
theorem f53_134 : fetch 53 134 = some (.aload_n 1, 1, [], .null) := by decide +kernel
theorem w53_134 : Wp d 53 134 [l0, some (.ref a), l2] st h Q = Wp d 53 135 [l0, some (.ref a), l2] (.ref a :: st) h Q := W_go f53_134 rfl
theorem f53_135 : fetch 53 135 = some (.getfield 19, 3, [6, 2, 2123, 0], .null) := by decide +kernel
theorem w53_135 : Wp d 53 135 [l0, l1, l2] (.ref a :: st) h Q = gP (h.2 a) 6 2 (fun w => Wp d 53 138 [l0, l1, l2] (w :: st) h Q) := W_get f53_135 rfl
theorem f53_138 : fetch 53 138 = some (.iload_n 2, 1, [], .null) := by decide +kernel
theorem w53_138 : Wp d 53 138 [l0, l1, some (.int x)] st h Q = Wp d 53 139 [l0, l1, some (.int x)] (.int x :: st) h Q := W_go f53_138 rfl
theorem f53_139 : fetch 53 139 = some (.aaload, 1, [], .null) := by decide +kernel
theorem w53_139 : Wp d 53 139 [l0, l1, l2] (.int x :: .ref a :: st) h Q = qP (h.2 a) x (fun w => Wp d 53 140 [l0, l1, l2] (w :: st) h Q) := W_qld f53_139 rfl
theorem f53_140 : fetch 53 140 = some (.invokevirtual 76, 3, [18, 2, 3, 0, 5141, 1012, 5144, 5142, 5143], .null) := by decide +kernel
theorem w53_140 (hp : psum st ≤ 8) : Wp d 53 140 [l0, l1, l2] (v1 :: (.ref b) :: st) h Q = rP (h.2 b) 2 (Cp d 18 [(.ref b), v1] h (fun o => cK o (fun w h2 => Wp d 53 143 [l0, l1, l2] (w.toList ++ st) h2 Q) (fun E h2 => Q (.inr E, h2)))) := (W_invV (st := st) f53_140 rfl rfl (by simp only [List.length_cons]; omega) rfl rfl hp).trans (by simp only [hm53, if_true])
theorem f53_143 : fetch 53 143 = some (.iinc 2 1, 3, [], .null) := by decide +kernel
theorem w53_143 : Wp d 53 143 [l0, l1, some (.int x)] st h Q = Wp d 53 146 [l0, kl l1, some (.int (x + (1 : Int32)))] st h Q := (W_iinc (y := (1 : Int32)) f53_143 rfl (by simp only [List.length_cons, List.length_nil]; omega) (by decide)).trans (by rw [pst1_succ]; rfl)
theorem f53_146 : fetch 53 146 = some (.goto (-44), 3, [], .null) := by decide +kernel
theorem w53_146 : Wp d 53 146 [l0, l1, l2] st h Q = Wp d 53 102 [l0, l1, l2] st h Q := W_go f53_146 rfl
theorem f53_149 : fetch 53 149 = some (.return_, 1, [], .null) := by decide +kernel
theorem w53_149 : Wp d 53 149 [l0, l1, l2] [] h Q = Q (.inl none, h) := W_fin f53_149 rfl
theorem hm54 : mhs 54 = [] := by decide +kernel
theorem hr54 : mret 54 = (some .boolean) := by decide +kernel
theorem f54_0 : fetch 54 0 = some (.aload_n 0, 1, [], .null) := by decide +kernel
theorem w54_0 : Wp d 54 0 [some (.ref a)] st h Q = Wp d 54 1 [some (.ref a)] (.ref a :: st) h Q := W_go f54_0 rfl
theorem f54_1 : fetch 54 1 = some (.getfield 39, 3, [6, 7, 2133, 0], .null) := by decide +kernel
theorem w54_1 : Wp d 54 1 [l0] (.ref a :: st) h Q = gP (h.2 a) 6 7 (fun w => Wp d 54 4 [l0] (w :: st) h Q) := W_get f54_1 rfl
theorem f54_4 : fetch 54 4 = some (.ifCond .ne 19, 3, [], .null) := by decide +kernel
theorem w54_4 : Wp d 54 4 [l0] (.int x :: st) h Q = if icond .ne x 0 = true then Wp d 54 23 [l0] st h Q else Wp d 54 7 [l0] st h Q := W_if f54_4 rfl
theorem f54_7 : fetch 54 7 = some (.aload_n 0, 1, [], .null) := by decide +kernel
theorem w54_7 : Wp d 54 7 [some (.ref a)] st h Q = Wp d 54 8 [some (.ref a)] (.ref a :: st) h Q := W_go f54_7 rfl
theorem f54_8 : fetch 54 8 = some (.getfield 29, 3, [6, 4, 2127, 0], .null) := by decide +kernel
theorem w54_8 : Wp d 54 8 [l0] (.ref a :: st) h Q = gP (h.2 a) 6 4 (fun w => Wp d 54 11 [l0] (w :: st) h Q) := W_get f54_8 rfl
theorem f54_11 : fetch 54 11 = some (.invokestatic 79, 3, [114, 1, 0, 1, 3185, 1001, 3176, 3175], .null) := by decide +kernel
theorem w54_11 (hp : psum st ≤ 8) : Wp d 54 11 [l0] (v0 :: st) h Q = Cp d 114 [v0] h (fun o => cK o (fun w h2 => Wp d 54 14 [l0] (w.toList ++ st) h2 Q) (fun _ _ => False)) := (W_invS (st := st) f54_11 rfl rfl (by simp only [List.length_cons]; omega) rfl rfl hp)
theorem f54_14 : fetch 54 14 = some (.bipush 11, 2, [], .null) := by decide +kernel
theorem w54_14 : Wp d 54 14 [l0] st h Q = Wp d 54 16 [l0] (.int (11 : Int32) :: st) h Q := W_go f54_14 rfl
theorem f54_16 : fetch 54 16 = some (.if_icmp .lt 7, 3, [], .null) := by decide +kernel
theorem w54_16 : Wp d 54 16 [l0] (.int y :: .int x :: st) h Q = if icond .lt x y = true then Wp d 54 23 [l0] st h Q else Wp d 54 19 [l0] st h Q := W_if f54_16 rfl
theorem f54_19 : fetch 54 19 = some (.iconst 1, 1, [], .null) := by decide +kernel
theorem w54_19 : Wp d 54 19 [l0] st h Q = Wp d 54 20 [l0] (.int (1 : Int32) :: st) h Q := W_go f54_19 rfl
theorem f54_20 : fetch 54 20 = some (.goto 4, 3, [], .null) := by decide +kernel
theorem w54_20 : Wp d 54 20 [l0] st h Q = Wp d 54 24 [l0] st h Q := W_go f54_20 rfl
theorem f54_23 : fetch 54 23 = some (.iconst 0, 1, [], .null) := by decide +kernel
theorem w54_23 : Wp d 54 23 [l0] st h Q = Wp d 54 24 [l0] (.int (0 : Int32) :: st) h Q := W_go f54_23 rfl
theorem f54_24 : fetch 54 24 = some (.ireturn, 1, [], .null) := by decide +kernel
theorem w54_24 : Wp d 54 24 [l0] [.int x] h Q = (if narrow .boolean (.int x) = .int x then Q (.inl (some (.int x)), h) else False) := W_zret f54_24 hr54
theorem hm55 : mhs 55 = [] := by decide +kernel
theorem hr55 : mret 55 = (some .int) := by decide +kernel
theorem f55_0 : fetch 55 0 = some (.iconst 0, 1, [], .null) := by decide +kernel
theorem w55_0 : Wp d 55 0 [l0, l1, l2, l3, l4] st h Q = Wp d 55 1 [l0, l1, l2, l3, l4] (.int (0 : Int32) :: st) h Q := W_go f55_0 rfl
theorem f55_1 : fetch 55 1 = some (.istore_n 2, 1, [], .null) := by decide +kernel
theorem w55_1 : Wp d 55 1 [l0, l1, l2, l3, l4] (.int x :: st) h Q = Wp d 55 2 [l0, kl l1, some (.int x), l3, l4] st h Q := (W_st1 (pc' := 2) (k := 2) f55_1 rfl rfl (by simp only [List.length_cons, List.length_nil]; omega)).trans (by rw [pst1_succ]; rfl)
theorem f55_2 : fetch 55 2 = some (.iconst 0, 1, [], .null) := by decide +kernel
theorem w55_2 : Wp d 55 2 [l0, l1, l2, l3, l4] st h Q = Wp d 55 3 [l0, l1, l2, l3, l4] (.int (0 : Int32) :: st) h Q := W_go f55_2 rfl
theorem f55_3 : fetch 55 3 = some (.istore_n 3, 1, [], .null) := by decide +kernel
theorem w55_3 : Wp d 55 3 [l0, l1, l2, l3, l4] (.int x :: st) h Q = Wp d 55 4 [l0, l1, kl l2, some (.int x), l4] st h Q := (W_st1 (pc' := 4) (k := 3) f55_3 rfl rfl (by simp only [List.length_cons, List.length_nil]; omega)).trans (by rw [pst1_succ]; rfl)
theorem f55_4 : fetch 55 4 = some (.iload_n 3, 1, [], .null) := by decide +kernel
theorem w55_4 : Wp d 55 4 [l0, l1, l2, some (.int x), l4] st h Q = Wp d 55 5 [l0, l1, l2, some (.int x), l4] (.int x :: st) h Q := W_go f55_4 rfl
theorem f55_5 : fetch 55 5 = some (.iload_n 1, 1, [], .null) := by decide +kernel
theorem w55_5 : Wp d 55 5 [l0, some (.int x), l2, l3, l4] st h Q = Wp d 55 6 [l0, some (.int x), l2, l3, l4] (.int x :: st) h Q := W_go f55_5 rfl
theorem f55_6 : fetch 55 6 = some (.if_icmp .ge 89, 3, [], .null) := by decide +kernel
theorem w55_6 : Wp d 55 6 [l0, l1, l2, l3, l4] (.int y :: .int x :: st) h Q = if icond .ge x y = true then Wp d 55 95 [l0, l1, l2, l3, l4] st h Q else Wp d 55 9 [l0, l1, l2, l3, l4] st h Q := W_if f55_6 rfl
theorem f55_9 : fetch 55 9 = some (.aload_n 0, 1, [], .null) := by decide +kernel
theorem w55_9 : Wp d 55 9 [some (.ref a), l1, l2, l3, l4] st h Q = Wp d 55 10 [some (.ref a), l1, l2, l3, l4] (.ref a :: st) h Q := W_go f55_9 rfl
theorem f55_10 : fetch 55 10 = some (.invokevirtual 83, 3, [54, 1, 7, 0, 4186, 1010, 3184, 3182, 3183], .null) := by decide +kernel
theorem w55_10 (hp : psum st ≤ 8) : Wp d 55 10 [l0, l1, l2, l3, l4] ((.ref b) :: st) h Q = rP (h.2 b) 6 (Cp d 54 [(.ref b)] h (fun o => cK o (fun w h2 => Wp d 55 13 [l0, l1, l2, l3, l4] (w.toList ++ st) h2 Q) (fun E h2 => Q (.inr E, h2)))) := (W_invV (st := st) f55_10 rfl rfl (by simp only [List.length_cons]; omega) rfl rfl hp).trans (by simp only [hm55, if_true])
theorem f55_13 : fetch 55 13 = some (.ifCond .ne 49, 3, [], .null) := by decide +kernel
theorem w55_13 : Wp d 55 13 [l0, l1, l2, l3, l4] (.int x :: st) h Q = if icond .ne x 0 = true then Wp d 55 62 [l0, l1, l2, l3, l4] st h Q else Wp d 55 16 [l0, l1, l2, l3, l4] st h Q := W_if f55_13 rfl
theorem f55_16 : fetch 55 16 = some (.iconst 0, 1, [], .null) := by decide +kernel
theorem w55_16 : Wp d 55 16 [l0, l1, l2, l3, l4] st h Q = Wp d 55 17 [l0, l1, l2, l3, l4] (.int (0 : Int32) :: st) h Q := W_go f55_16 rfl
theorem f55_17 : fetch 55 17 = some (.istore 4, 2, [], .null) := by decide +kernel
theorem w55_17 : Wp d 55 17 [l0, l1, l2, l3, l4] (.int x :: st) h Q = Wp d 55 19 [l0, l1, l2, kl l3, some (.int x)] st h Q := (W_st1 (pc' := 19) (k := 4) f55_17 rfl rfl (by simp only [List.length_cons, List.length_nil]; omega)).trans (by rw [pst1_succ]; rfl)
theorem f55_19 : fetch 55 19 = some (.iload 4, 2, [], .null) := by decide +kernel
theorem w55_19 : Wp d 55 19 [l0, l1, l2, l3, some (.int x)] st h Q = Wp d 55 21 [l0, l1, l2, l3, some (.int x)] (.int x :: st) h Q := W_go f55_19 rfl
theorem f55_21 : fetch 55 21 = some (.aload_n 0, 1, [], .null) := by decide +kernel
theorem w55_21 : Wp d 55 21 [some (.ref a), l1, l2, l3, l4] st h Q = Wp d 55 22 [some (.ref a), l1, l2, l3, l4] (.ref a :: st) h Q := W_go f55_21 rfl
theorem f55_22 : fetch 55 22 = some (.getfield 63, 3, [6, 3, 2125, 0], .null) := by decide +kernel
theorem w55_22 : Wp d 55 22 [l0, l1, l2, l3, l4] (.ref a :: st) h Q = gP (h.2 a) 6 3 (fun w => Wp d 55 25 [l0, l1, l2, l3, l4] (w :: st) h Q) := W_get f55_22 rfl
theorem f55_25 : fetch 55 25 = some (.if_icmp .ge 30, 3, [], .null) := by decide +kernel
theorem w55_25 : Wp d 55 25 [l0, l1, l2, l3, l4] (.int y :: .int x :: st) h Q = if icond .ge x y = true then Wp d 55 55 [l0, l1, l2, l3, l4] st h Q else Wp d 55 28 [l0, l1, l2, l3, l4] st h Q := W_if f55_25 rfl
theorem f55_28 : fetch 55 28 = some (.iload 4, 2, [], .null) := by decide +kernel
theorem w55_28 : Wp d 55 28 [l0, l1, l2, l3, some (.int x)] st h Q = Wp d 55 30 [l0, l1, l2, l3, some (.int x)] (.int x :: st) h Q := W_go f55_28 rfl
theorem f55_30 : fetch 55 30 = some (.aload_n 0, 1, [], .null) := by decide +kernel
theorem w55_30 : Wp d 55 30 [some (.ref a), l1, l2, l3, l4] st h Q = Wp d 55 31 [some (.ref a), l1, l2, l3, l4] (.ref a :: st) h Q := W_go f55_30 rfl
theorem f55_31 : fetch 55 31 = some (.getfield 19, 3, [6, 2, 2123, 0], .null) := by decide +kernel
theorem w55_31 : Wp d 55 31 [l0, l1, l2, l3, l4] (.ref a :: st) h Q = gP (h.2 a) 6 2 (fun w => Wp d 55 34 [l0, l1, l2, l3, l4] (w :: st) h Q) := W_get f55_31 rfl
theorem f55_34 : fetch 55 34 = some (.arraylength, 1, [], .null) := by decide +kernel
theorem w55_34 : Wp d 55 34 [l0, l1, l2, l3, l4] (.ref a :: st) h Q = nP (h.2 a) (fun w => Wp d 55 35 [l0, l1, l2, l3, l4] (.int w :: st) h Q) := W_len f55_34 rfl
theorem f55_35 : fetch 55 35 = some (.if_icmp .ge 20, 3, [], .null) := by decide +kernel
theorem w55_35 : Wp d 55 35 [l0, l1, l2, l3, l4] (.int y :: .int x :: st) h Q = if icond .ge x y = true then Wp d 55 55 [l0, l1, l2, l3, l4] st h Q else Wp d 55 38 [l0, l1, l2, l3, l4] st h Q := W_if f55_35 rfl
theorem f55_38 : fetch 55 38 = some (.aload_n 0, 1, [], .null) := by decide +kernel
theorem w55_38 : Wp d 55 38 [some (.ref a), l1, l2, l3, l4] st h Q = Wp d 55 39 [some (.ref a), l1, l2, l3, l4] (.ref a :: st) h Q := W_go f55_38 rfl
theorem f55_39 : fetch 55 39 = some (.aload_n 0, 1, [], .null) := by decide +kernel
theorem w55_39 : Wp d 55 39 [some (.ref a), l1, l2, l3, l4] st h Q = Wp d 55 40 [some (.ref a), l1, l2, l3, l4] (.ref a :: st) h Q := W_go f55_39 rfl
theorem f55_40 : fetch 55 40 = some (.getfield 19, 3, [6, 2, 2123, 0], .null) := by decide +kernel
theorem w55_40 : Wp d 55 40 [l0, l1, l2, l3, l4] (.ref a :: st) h Q = gP (h.2 a) 6 2 (fun w => Wp d 55 43 [l0, l1, l2, l3, l4] (w :: st) h Q) := W_get f55_40 rfl
theorem f55_43 : fetch 55 43 = some (.iload 4, 2, [], .null) := by decide +kernel
theorem w55_43 : Wp d 55 43 [l0, l1, l2, l3, some (.int x)] st h Q = Wp d 55 45 [l0, l1, l2, l3, some (.int x)] (.int x :: st) h Q := W_go f55_43 rfl
theorem f55_45 : fetch 55 45 = some (.aaload, 1, [], .null) := by decide +kernel
theorem w55_45 : Wp d 55 45 [l0, l1, l2, l3, l4] (.int x :: .ref a :: st) h Q = qP (h.2 a) x (fun w => Wp d 55 46 [l0, l1, l2, l3, l4] (w :: st) h Q) := W_qld f55_45 rfl
theorem f55_46 : fetch 55 46 = some (.invokevirtual 87, 3, [59, 2, 7, 0, 4187, 1010, 4190, 4189, 23], .null) := by decide +kernel
theorem w55_46 (hp : psum st ≤ 8) : Wp d 55 46 [l0, l1, l2, l3, l4] (v1 :: (.ref b) :: st) h Q = rP (h.2 b) 6 (Cp d 59 [(.ref b), v1] h (fun o => cK o (fun w h2 => Wp d 55 49 [l0, l1, l2, l3, l4] (w.toList ++ st) h2 Q) (fun E h2 => Q (.inr E, h2)))) := (W_invV (st := st) f55_46 rfl rfl (by simp only [List.length_cons]; omega) rfl rfl hp).trans (by simp only [hm55, if_true])
theorem f55_49 : fetch 55 49 = some (.iinc 4 1, 3, [], .null) := by decide +kernel
theorem w55_49 : Wp d 55 49 [l0, l1, l2, l3, some (.int x)] st h Q = Wp d 55 52 [l0, l1, l2, kl l3, some (.int (x + (1 : Int32)))] st h Q := (W_iinc (y := (1 : Int32)) f55_49 rfl (by simp only [List.length_cons, List.length_nil]; omega) (by decide)).trans (by rw [pst1_succ]; rfl)
theorem f55_52 : fetch 55 52 = some (.goto (-33), 3, [], .null) := by decide +kernel
theorem w55_52 : Wp d 55 52 [l0, l1, l2, l3, l4] st h Q = Wp d 55 19 [l0, l1, l2, l3, l4] st h Q := W_go f55_52 rfl
theorem f55_55 : fetch 55 55 = some (.iload_n 2, 1, [], .null) := by decide +kernel
theorem w55_55 : Wp d 55 55 [l0, l1, some (.int x), l3, l4] st h Q = Wp d 55 56 [l0, l1, some (.int x), l3, l4] (.int x :: st) h Q := W_go f55_55 rfl
theorem f55_56 : fetch 55 56 = some (.aload_n 0, 1, [], .null) := by decide +kernel
theorem w55_56 : Wp d 55 56 [some (.ref a), l1, l2, l3, l4] st h Q = Wp d 55 57 [some (.ref a), l1, l2, l3, l4] (.ref a :: st) h Q := W_go f55_56 rfl
theorem f55_57 : fetch 55 57 = some (.invokevirtual 90, 3, [56, 1, 7, 0, 4238, 1010, 5001, 5000, 31], .null) := by decide +kernel
theorem w55_57 (hp : psum st ≤ 8) : Wp d 55 57 [l0, l1, l2, l3, l4] ((.ref b) :: st) h Q = rP (h.2 b) 6 (Cp d 56 [(.ref b)] h (fun o => cK o (fun w h2 => Wp d 55 60 [l0, l1, l2, l3, l4] (w.toList ++ st) h2 Q) (fun E h2 => Q (.inr E, h2)))) := (W_invV (st := st) f55_57 rfl rfl (by simp only [List.length_cons]; omega) rfl rfl hp).trans (by simp only [hm55, if_true])
theorem f55_60 : fetch 55 60 = some (.iadd, 1, [], .null) := by decide +kernel
theorem w55_60 : Wp d 55 60 [l0, l1, l2, l3, l4] (.int y :: .int x :: st) h Q = Wp d 55 61 [l0, l1, l2, l3, l4] (.int (x + y) :: st) h Q := W_go f55_60 rfl
theorem f55_61 : fetch 55 61 = some (.istore_n 2, 1, [], .null) := by decide +kernel
theorem w55_61 : Wp d 55 61 [l0, l1, l2, l3, l4] (.int x :: st) h Q = Wp d 55 62 [l0, kl l1, some (.int x), l3, l4] st h Q := (W_st1 (pc' := 62) (k := 2) f55_61 rfl rfl (by simp only [List.length_cons, List.length_nil]; omega)).trans (by rw [pst1_succ]; rfl)
theorem f55_62 : fetch 55 62 = some (.aload_n 0, 1, [], .null) := by decide +kernel
theorem w55_62 : Wp d 55 62 [some (.ref a), l1, l2, l3, l4] st h Q = Wp d 55 63 [some (.ref a), l1, l2, l3, l4] (.ref a :: st) h Q := W_go f55_62 rfl
theorem f55_63 : fetch 55 63 = some (.invokevirtual 94, 3, [57, 1, 7, 0, 5002, 1010, 5005, 5004, 32], .null) := by decide +kernel
theorem w55_63 (hp : psum st ≤ 8) : Wp d 55 63 [l0, l1, l2, l3, l4] ((.ref b) :: st) h Q = rP (h.2 b) 6 (Cp d 57 [(.ref b)] h (fun o => cK o (fun w h2 => Wp d 55 66 [l0, l1, l2, l3, l4] (w.toList ++ st) h2 Q) (fun E h2 => Q (.inr E, h2)))) := (W_invV (st := st) f55_63 rfl rfl (by simp only [List.length_cons]; omega) rfl rfl hp).trans (by simp only [hm55, if_true])
theorem f55_66 : fetch 55 66 = some (.aload_n 0, 1, [], .null) := by decide +kernel
theorem w55_66 : Wp d 55 66 [some (.ref a), l1, l2, l3, l4] st h Q = Wp d 55 67 [some (.ref a), l1, l2, l3, l4] (.ref a :: st) h Q := W_go f55_66 rfl
theorem f55_67 : fetch 55 67 = some (.dup, 1, [], .null) := by decide +kernel
theorem w55_67i : Wp d 55 67 [l0, l1, l2, l3, l4] (.int x :: st) h Q = Wp d 55 68 [l0, l1, l2, l3, l4] (.int x :: .int x :: st) h Q := W_go f55_67 rfl
theorem w55_67 : Wp d 55 67 [l0, l1, l2, l3, l4] (.ref a :: st) h Q = Wp d 55 68 [l0, l1, l2, l3, l4] (.ref a :: .ref a :: st) h Q := W_go f55_67 rfl
theorem f55_68 : fetch 55 68 = some (.getfield 33, 3, [6, 5, 2129, 0], .null) := by decide +kernel
theorem w55_68 : Wp d 55 68 [l0, l1, l2, l3, l4] (.ref a :: st) h Q = gP (h.2 a) 6 5 (fun w => Wp d 55 71 [l0, l1, l2, l3, l4] (w :: st) h Q) := W_get f55_68 rfl
theorem f55_71 : fetch 55 71 = some (.iconst 1, 1, [], .null) := by decide +kernel
theorem w55_71 : Wp d 55 71 [l0, l1, l2, l3, l4] st h Q = Wp d 55 72 [l0, l1, l2, l3, l4] (.int (1 : Int32) :: st) h Q := W_go f55_71 rfl
theorem f55_72 : fetch 55 72 = some (.iadd, 1, [], .null) := by decide +kernel
theorem w55_72 : Wp d 55 72 [l0, l1, l2, l3, l4] (.int y :: .int x :: st) h Q = Wp d 55 73 [l0, l1, l2, l3, l4] (.int (x + y) :: st) h Q := W_go f55_72 rfl
theorem f55_73 : fetch 55 73 = some (.putfield 33, 3, [6, 5, 2129, 0], .null) := by decide +kernel
theorem w55_73 : Wp d 55 73 [l0, l1, l2, l3, l4] (v :: .ref a :: st) h Q = pP (h.2 a) 6 5 (ftOf 6 5) v a (fun c => Wp d 55 76 [l0, l1, l2, l3, l4] st (hset h a c) Q) := W_put f55_73 (by rfl)
theorem f55_76 : fetch 55 76 = some (.aload_n 0, 1, [], .null) := by decide +kernel
theorem w55_76 : Wp d 55 76 [some (.ref a), l1, l2, l3, l4] st h Q = Wp d 55 77 [some (.ref a), l1, l2, l3, l4] (.ref a :: st) h Q := W_go f55_76 rfl
theorem f55_77 : fetch 55 77 = some (.getfield 33, 3, [6, 5, 2129, 0], .null) := by decide +kernel
theorem w55_77 : Wp d 55 77 [l0, l1, l2, l3, l4] (.ref a :: st) h Q = gP (h.2 a) 6 5 (fun w => Wp d 55 80 [l0, l1, l2, l3, l4] (w :: st) h Q) := W_get f55_77 rfl
theorem f55_80 : fetch 55 80 = some (.bipush 40, 2, [], .null) := by decide +kernel
theorem w55_80 : Wp d 55 80 [l0, l1, l2, l3, l4] st h Q = Wp d 55 82 [l0, l1, l2, l3, l4] (.int (40 : Int32) :: st) h Q := W_go f55_80 rfl
theorem f55_82 : fetch 55 82 = some (.if_icmp .ne 7, 3, [], .null) := by decide +kernel
theorem w55_82 : Wp d 55 82 [l0, l1, l2, l3, l4] (.int y :: .int x :: st) h Q = if icond .ne x y = true then Wp d 55 89 [l0, l1, l2, l3, l4] st h Q else Wp d 55 85 [l0, l1, l2, l3, l4] st h Q := W_if f55_82 rfl
theorem f55_85 : fetch 55 85 = some (.aload_n 0, 1, [], .null) := by decide +kernel
theorem w55_85 : Wp d 55 85 [some (.ref a), l1, l2, l3, l4] st h Q = Wp d 55 86 [some (.ref a), l1, l2, l3, l4] (.ref a :: st) h Q := W_go f55_85 rfl
theorem f55_86 : fetch 55 86 = some (.invokevirtual 97, 3, [58, 1, 7, 0, 5010, 1010, 5013, 5012, 33], .null) := by decide +kernel
theorem w55_86 (hp : psum st ≤ 8) : Wp d 55 86 [l0, l1, l2, l3, l4] ((.ref b) :: st) h Q = rP (h.2 b) 6 (Cp d 58 [(.ref b)] h (fun o => cK o (fun w h2 => Wp d 55 89 [l0, l1, l2, l3, l4] (w.toList ++ st) h2 Q) (fun E h2 => Q (.inr E, h2)))) := (W_invV (st := st) f55_86 rfl rfl (by simp only [List.length_cons]; omega) rfl rfl hp).trans (by simp only [hm55, if_true])
theorem f55_89 : fetch 55 89 = some (.iinc 3 1, 3, [], .null) := by decide +kernel
theorem w55_89 : Wp d 55 89 [l0, l1, l2, some (.int x), l4] st h Q = Wp d 55 92 [l0, l1, kl l2, some (.int (x + (1 : Int32))), l4] st h Q := (W_iinc (y := (1 : Int32)) f55_89 rfl (by simp only [List.length_cons, List.length_nil]; omega) (by decide)).trans (by rw [pst1_succ]; rfl)
theorem f55_92 : fetch 55 92 = some (.goto (-88), 3, [], .null) := by decide +kernel
theorem w55_92 : Wp d 55 92 [l0, l1, l2, l3, l4] st h Q = Wp d 55 4 [l0, l1, l2, l3, l4] st h Q := W_go f55_92 rfl
theorem f55_95 : fetch 55 95 = some (.iload_n 2, 1, [], .null) := by decide +kernel
theorem w55_95 : Wp d 55 95 [l0, l1, some (.int x), l3, l4] st h Q = Wp d 55 96 [l0, l1, some (.int x), l3, l4] (.int x :: st) h Q := W_go f55_95 rfl
theorem f55_96 : fetch 55 96 = some (.ireturn, 1, [], .null) := by decide +kernel
theorem w55_96 : Wp d 55 96 [l0, l1, l2, l3, l4] [.int x] h Q = Q (.inl (some (.int x)), h) := W_iret f55_96 hr55
theorem hm56 : mhs 56 = [] := by decide +kernel
theorem hr56 : mret 56 = (some .int) := by decide +kernel
theorem f56_0 : fetch 56 0 = some (.iconst 0, 1, [], .null) := by decide +kernel
theorem w56_0 : Wp d 56 0 [l0, l1, l2] st h Q = Wp d 56 1 [l0, l1, l2] (.int (0 : Int32) :: st) h Q := W_go f56_0 rfl
theorem f56_1 : fetch 56 1 = some (.istore_n 1, 1, [], .null) := by decide +kernel
theorem w56_1 : Wp d 56 1 [l0, l1, l2] (.int x :: st) h Q = Wp d 56 2 [kl l0, some (.int x), l2] st h Q := (W_st1 (pc' := 2) (k := 1) f56_1 rfl rfl (by simp only [List.length_cons, List.length_nil]; omega)).trans (by rw [pst1_succ]; rfl)
theorem f56_2 : fetch 56 2 = some (.iconst 0, 1, [], .null) := by decide +kernel
theorem w56_2 : Wp d 56 2 [l0, l1, l2] st h Q = Wp d 56 3 [l0, l1, l2] (.int (0 : Int32) :: st) h Q := W_go f56_2 rfl
theorem f56_3 : fetch 56 3 = some (.istore_n 2, 1, [], .null) := by decide +kernel
theorem w56_3 : Wp d 56 3 [l0, l1, l2] (.int x :: st) h Q = Wp d 56 4 [l0, kl l1, some (.int x)] st h Q := (W_st1 (pc' := 4) (k := 2) f56_3 rfl rfl (by simp only [List.length_cons, List.length_nil]; omega)).trans (by rw [pst1_succ]; rfl)
theorem f56_4 : fetch 56 4 = some (.iload_n 2, 1, [], .null) := by decide +kernel
theorem w56_4 : Wp d 56 4 [l0, l1, some (.int x)] st h Q = Wp d 56 5 [l0, l1, some (.int x)] (.int x :: st) h Q := W_go f56_4 rfl
theorem f56_5 : fetch 56 5 = some (.aload_n 0, 1, [], .null) := by decide +kernel
theorem w56_5 : Wp d 56 5 [some (.ref a), l1, l2] st h Q = Wp d 56 6 [some (.ref a), l1, l2] (.ref a :: st) h Q := W_go f56_5 rfl
theorem f56_6 : fetch 56 6 = some (.getfield 23, 3, [6, 0, 2119, 0], .null) := by decide +kernel
theorem w56_6 : Wp d 56 6 [l0, l1, l2] (.ref a :: st) h Q = gP (h.2 a) 6 0 (fun w => Wp d 56 9 [l0, l1, l2] (w :: st) h Q) := W_get f56_6 rfl
theorem f56_9 : fetch 56 9 = some (.getfield 43, 3, [0, 0, 1055, 0], .null) := by decide +kernel
theorem w56_9 : Wp d 56 9 [l0, l1, l2] (.ref a :: st) h Q = gP (h.2 a) 0 0 (fun w => Wp d 56 12 [l0, l1, l2] (w :: st) h Q) := W_get f56_9 rfl
theorem f56_12 : fetch 56 12 = some (.if_icmp .ge 48, 3, [], .null) := by decide +kernel
theorem w56_12 : Wp d 56 12 [l0, l1, l2] (.int y :: .int x :: st) h Q = if icond .ge x y = true then Wp d 56 60 [l0, l1, l2] st h Q else Wp d 56 15 [l0, l1, l2] st h Q := W_if f56_12 rfl
theorem f56_15 : fetch 56 15 = some (.iload_n 2, 1, [], .null) := by decide +kernel
theorem w56_15 : Wp d 56 15 [l0, l1, some (.int x)] st h Q = Wp d 56 16 [l0, l1, some (.int x)] (.int x :: st) h Q := W_go f56_15 rfl
theorem f56_16 : fetch 56 16 = some (.aload_n 0, 1, [], .null) := by decide +kernel
theorem w56_16 : Wp d 56 16 [some (.ref a), l1, l2] st h Q = Wp d 56 17 [some (.ref a), l1, l2] (.ref a :: st) h Q := W_go f56_16 rfl
theorem f56_17 : fetch 56 17 = some (.getfield 11, 3, [6, 1, 2121, 0], .null) := by decide +kernel
theorem w56_17 : Wp d 56 17 [l0, l1, l2] (.ref a :: st) h Q = gP (h.2 a) 6 1 (fun w => Wp d 56 20 [l0, l1, l2] (w :: st) h Q) := W_get f56_17 rfl
theorem f56_20 : fetch 56 20 = some (.arraylength, 1, [], .null) := by decide +kernel
theorem w56_20 : Wp d 56 20 [l0, l1, l2] (.ref a :: st) h Q = nP (h.2 a) (fun w => Wp d 56 21 [l0, l1, l2] (.int w :: st) h Q) := W_len f56_20 rfl
theorem f56_21 : fetch 56 21 = some (.if_icmp .ge 39, 3, [], .null) := by decide +kernel
theorem w56_21 : Wp d 56 21 [l0, l1, l2] (.int y :: .int x :: st) h Q = if icond .ge x y = true then Wp d 56 60 [l0, l1, l2] st h Q else Wp d 56 24 [l0, l1, l2] st h Q := W_if f56_21 rfl
theorem f56_24 : fetch 56 24 = some (.aload_n 0, 1, [], .null) := by decide +kernel
theorem w56_24 : Wp d 56 24 [some (.ref a), l1, l2] st h Q = Wp d 56 25 [some (.ref a), l1, l2] (.ref a :: st) h Q := W_go f56_24 rfl
theorem f56_25 : fetch 56 25 = some (.getfield 11, 3, [6, 1, 2121, 0], .null) := by decide +kernel
theorem w56_25 : Wp d 56 25 [l0, l1, l2] (.ref a :: st) h Q = gP (h.2 a) 6 1 (fun w => Wp d 56 28 [l0, l1, l2] (w :: st) h Q) := W_get f56_25 rfl
theorem f56_28 : fetch 56 28 = some (.iload_n 2, 1, [], .null) := by decide +kernel
theorem w56_28 : Wp d 56 28 [l0, l1, some (.int x)] st h Q = Wp d 56 29 [l0, l1, some (.int x)] (.int x :: st) h Q := W_go f56_28 rfl
theorem f56_29 : fetch 56 29 = some (.aaload, 1, [], .null) := by decide +kernel
theorem w56_29 : Wp d 56 29 [l0, l1, l2] (.int x :: .ref a :: st) h Q = qP (h.2 a) x (fun w => Wp d 56 30 [l0, l1, l2] (w :: st) h Q) := W_qld f56_29 rfl
theorem f56_30 : fetch 56 30 = some (.getfield 100, 3, [1, 6, 2049, 0], .null) := by decide +kernel
theorem w56_30 : Wp d 56 30 [l0, l1, l2] (.ref a :: st) h Q = gP (h.2 a) 1 6 (fun w => Wp d 56 33 [l0, l1, l2] (w :: st) h Q) := W_get f56_30 rfl
theorem f56_33 : fetch 56 33 = some (.ifCond .ne 21, 3, [], .null) := by decide +kernel
theorem w56_33 : Wp d 56 33 [l0, l1, l2] (.int x :: st) h Q = if icond .ne x 0 = true then Wp d 56 54 [l0, l1, l2] st h Q else Wp d 56 36 [l0, l1, l2] st h Q := W_if f56_33 rfl
theorem f56_36 : fetch 56 36 = some (.aload_n 0, 1, [], .null) := by decide +kernel
theorem w56_36 : Wp d 56 36 [some (.ref a), l1, l2] st h Q = Wp d 56 37 [some (.ref a), l1, l2] (.ref a :: st) h Q := W_go f56_36 rfl
theorem f56_37 : fetch 56 37 = some (.getfield 11, 3, [6, 1, 2121, 0], .null) := by decide +kernel
theorem w56_37 : Wp d 56 37 [l0, l1, l2] (.ref a :: st) h Q = gP (h.2 a) 6 1 (fun w => Wp d 56 40 [l0, l1, l2] (w :: st) h Q) := W_get f56_37 rfl
theorem f56_40 : fetch 56 40 = some (.iload_n 2, 1, [], .null) := by decide +kernel
theorem w56_40 : Wp d 56 40 [l0, l1, some (.int x)] st h Q = Wp d 56 41 [l0, l1, some (.int x)] (.int x :: st) h Q := W_go f56_40 rfl
theorem f56_41 : fetch 56 41 = some (.aaload, 1, [], .null) := by decide +kernel
theorem w56_41 : Wp d 56 41 [l0, l1, l2] (.int x :: .ref a :: st) h Q = qP (h.2 a) x (fun w => Wp d 56 42 [l0, l1, l2] (w :: st) h Q) := W_qld f56_41 rfl
theorem f56_42 : fetch 56 42 = some (.dup, 1, [], .null) := by decide +kernel
theorem w56_42i : Wp d 56 42 [l0, l1, l2] (.int x :: st) h Q = Wp d 56 43 [l0, l1, l2] (.int x :: .int x :: st) h Q := W_go f56_42 rfl
theorem w56_42 : Wp d 56 42 [l0, l1, l2] (.ref a :: st) h Q = Wp d 56 43 [l0, l1, l2] (.ref a :: .ref a :: st) h Q := W_go f56_42 rfl
theorem f56_43 : fetch 56 43 = some (.getfield 103, 3, [1, 5, 2046, 0], .null) := by decide +kernel
theorem w56_43 : Wp d 56 43 [l0, l1, l2] (.ref a :: st) h Q = gP (h.2 a) 1 5 (fun w => Wp d 56 46 [l0, l1, l2] (w :: st) h Q) := W_get f56_43 rfl
theorem f56_46 : fetch 56 46 = some (.iconst 1, 1, [], .null) := by decide +kernel
theorem w56_46 : Wp d 56 46 [l0, l1, l2] st h Q = Wp d 56 47 [l0, l1, l2] (.int (1 : Int32) :: st) h Q := W_go f56_46 rfl
theorem f56_47 : fetch 56 47 = some (.iadd, 1, [], .null) := by decide +kernel
theorem w56_47 : Wp d 56 47 [l0, l1, l2] (.int y :: .int x :: st) h Q = Wp d 56 48 [l0, l1, l2] (.int (x + y) :: st) h Q := W_go f56_47 rfl
theorem f56_48 : fetch 56 48 = some (.putfield 103, 3, [1, 5, 2046, 0], .null) := by decide +kernel
theorem w56_48 : Wp d 56 48 [l0, l1, l2] (v :: .ref a :: st) h Q = pP (h.2 a) 1 5 (ftOf 1 5) v a (fun c => Wp d 56 51 [l0, l1, l2] st (hset h a c) Q) := W_put f56_48 (by rfl)
theorem f56_51 : fetch 56 51 = some (.iinc 1 1, 3, [], .null) := by decide +kernel
theorem w56_51 : Wp d 56 51 [l0, some (.int x), l2] st h Q = Wp d 56 54 [kl l0, some (.int (x + (1 : Int32))), l2] st h Q := (W_iinc (y := (1 : Int32)) f56_51 rfl (by simp only [List.length_cons, List.length_nil]; omega) (by decide)).trans (by rw [pst1_succ]; rfl)
theorem f56_54 : fetch 56 54 = some (.iinc 2 1, 3, [], .null) := by decide +kernel
theorem w56_54 : Wp d 56 54 [l0, l1, some (.int x)] st h Q = Wp d 56 57 [l0, kl l1, some (.int (x + (1 : Int32)))] st h Q := (W_iinc (y := (1 : Int32)) f56_54 rfl (by simp only [List.length_cons, List.length_nil]; omega) (by decide)).trans (by rw [pst1_succ]; rfl)
theorem f56_57 : fetch 56 57 = some (.goto (-53), 3, [], .null) := by decide +kernel
theorem w56_57 : Wp d 56 57 [l0, l1, l2] st h Q = Wp d 56 4 [l0, l1, l2] st h Q := W_go f56_57 rfl
theorem f56_60 : fetch 56 60 = some (.iload_n 1, 1, [], .null) := by decide +kernel
theorem w56_60 : Wp d 56 60 [l0, some (.int x), l2] st h Q = Wp d 56 61 [l0, some (.int x), l2] (.int x :: st) h Q := W_go f56_60 rfl
theorem f56_61 : fetch 56 61 = some (.ireturn, 1, [], .null) := by decide +kernel
theorem w56_61 : Wp d 56 61 [l0, l1, l2] [.int x] h Q = Q (.inl (some (.int x)), h) := W_iret f56_61 hr56
theorem hm57 : mhs 57 = [] := by decide +kernel
theorem f57_0 : fetch 57 0 = some (.iconst 0, 1, [], .null) := by decide +kernel
theorem w57_0 : Wp d 57 0 [l0, l1] st h Q = Wp d 57 1 [l0, l1] (.int (0 : Int32) :: st) h Q := W_go f57_0 rfl
theorem f57_1 : fetch 57 1 = some (.istore_n 1, 1, [], .null) := by decide +kernel
theorem w57_1 : Wp d 57 1 [l0, l1] (.int x :: st) h Q = Wp d 57 2 [kl l0, some (.int x)] st h Q := (W_st1 (pc' := 2) (k := 1) f57_1 rfl rfl (by simp only [List.length_cons, List.length_nil]; omega)).trans (by rw [pst1_succ]; rfl)
theorem f57_2 : fetch 57 2 = some (.iload_n 1, 1, [], .null) := by decide +kernel
theorem w57_2 : Wp d 57 2 [l0, some (.int x)] st h Q = Wp d 57 3 [l0, some (.int x)] (.int x :: st) h Q := W_go f57_2 rfl
theorem f57_3 : fetch 57 3 = some (.aload_n 0, 1, [], .null) := by decide +kernel
theorem w57_3 : Wp d 57 3 [some (.ref a), l1] st h Q = Wp d 57 4 [some (.ref a), l1] (.ref a :: st) h Q := W_go f57_3 rfl
theorem f57_4 : fetch 57 4 = some (.getfield 23, 3, [6, 0, 2119, 0], .null) := by decide +kernel
theorem w57_4 : Wp d 57 4 [l0, l1] (.ref a :: st) h Q = gP (h.2 a) 6 0 (fun w => Wp d 57 7 [l0, l1] (w :: st) h Q) := W_get f57_4 rfl
theorem f57_7 : fetch 57 7 = some (.getfield 43, 3, [0, 0, 1055, 0], .null) := by decide +kernel
theorem w57_7 : Wp d 57 7 [l0, l1] (.ref a :: st) h Q = gP (h.2 a) 0 0 (fun w => Wp d 57 10 [l0, l1] (w :: st) h Q) := W_get f57_7 rfl
theorem f57_10 : fetch 57 10 = some (.if_icmp .ge 48, 3, [], .null) := by decide +kernel
theorem w57_10 : Wp d 57 10 [l0, l1] (.int y :: .int x :: st) h Q = if icond .ge x y = true then Wp d 57 58 [l0, l1] st h Q else Wp d 57 13 [l0, l1] st h Q := W_if f57_10 rfl
theorem f57_13 : fetch 57 13 = some (.iload_n 1, 1, [], .null) := by decide +kernel
theorem w57_13 : Wp d 57 13 [l0, some (.int x)] st h Q = Wp d 57 14 [l0, some (.int x)] (.int x :: st) h Q := W_go f57_13 rfl
theorem f57_14 : fetch 57 14 = some (.aload_n 0, 1, [], .null) := by decide +kernel
theorem w57_14 : Wp d 57 14 [some (.ref a), l1] st h Q = Wp d 57 15 [some (.ref a), l1] (.ref a :: st) h Q := W_go f57_14 rfl
theorem f57_15 : fetch 57 15 = some (.getfield 11, 3, [6, 1, 2121, 0], .null) := by decide +kernel
theorem w57_15 : Wp d 57 15 [l0, l1] (.ref a :: st) h Q = gP (h.2 a) 6 1 (fun w => Wp d 57 18 [l0, l1] (w :: st) h Q) := W_get f57_15 rfl
theorem f57_18 : fetch 57 18 = some (.arraylength, 1, [], .null) := by decide +kernel
theorem w57_18 : Wp d 57 18 [l0, l1] (.ref a :: st) h Q = nP (h.2 a) (fun w => Wp d 57 19 [l0, l1] (.int w :: st) h Q) := W_len f57_18 rfl
theorem f57_19 : fetch 57 19 = some (.if_icmp .ge 39, 3, [], .null) := by decide +kernel
theorem w57_19 : Wp d 57 19 [l0, l1] (.int y :: .int x :: st) h Q = if icond .ge x y = true then Wp d 57 58 [l0, l1] st h Q else Wp d 57 22 [l0, l1] st h Q := W_if f57_19 rfl
theorem f57_22 : fetch 57 22 = some (.aload_n 0, 1, [], .null) := by decide +kernel
theorem w57_22 : Wp d 57 22 [some (.ref a), l1] st h Q = Wp d 57 23 [some (.ref a), l1] (.ref a :: st) h Q := W_go f57_22 rfl
theorem f57_23 : fetch 57 23 = some (.getfield 11, 3, [6, 1, 2121, 0], .null) := by decide +kernel
theorem w57_23 : Wp d 57 23 [l0, l1] (.ref a :: st) h Q = gP (h.2 a) 6 1 (fun w => Wp d 57 26 [l0, l1] (w :: st) h Q) := W_get f57_23 rfl
theorem f57_26 : fetch 57 26 = some (.iload_n 1, 1, [], .null) := by decide +kernel
theorem w57_26 : Wp d 57 26 [l0, some (.int x)] st h Q = Wp d 57 27 [l0, some (.int x)] (.int x :: st) h Q := W_go f57_26 rfl
theorem f57_27 : fetch 57 27 = some (.aaload, 1, [], .null) := by decide +kernel
theorem w57_27 : Wp d 57 27 [l0, l1] (.int x :: .ref a :: st) h Q = qP (h.2 a) x (fun w => Wp d 57 28 [l0, l1] (w :: st) h Q) := W_qld f57_27 rfl
theorem f57_28 : fetch 57 28 = some (.getfield 100, 3, [1, 6, 2049, 0], .null) := by decide +kernel
theorem w57_28 : Wp d 57 28 [l0, l1] (.ref a :: st) h Q = gP (h.2 a) 1 6 (fun w => Wp d 57 31 [l0, l1] (w :: st) h Q) := W_get f57_28 rfl
theorem f57_31 : fetch 57 31 = some (.ifCond .eq 21, 3, [], .null) := by decide +kernel
theorem w57_31 : Wp d 57 31 [l0, l1] (.int x :: st) h Q = if icond .eq x 0 = true then Wp d 57 52 [l0, l1] st h Q else Wp d 57 34 [l0, l1] st h Q := W_if f57_31 rfl
theorem f57_34 : fetch 57 34 = some (.aload_n 0, 1, [], .null) := by decide +kernel
theorem w57_34 : Wp d 57 34 [some (.ref a), l1] st h Q = Wp d 57 35 [some (.ref a), l1] (.ref a :: st) h Q := W_go f57_34 rfl
theorem f57_35 : fetch 57 35 = some (.dup, 1, [], .null) := by decide +kernel
theorem w57_35i : Wp d 57 35 [l0, l1] (.int x :: st) h Q = Wp d 57 36 [l0, l1] (.int x :: .int x :: st) h Q := W_go f57_35 rfl
theorem w57_35 : Wp d 57 35 [l0, l1] (.ref a :: st) h Q = Wp d 57 36 [l0, l1] (.ref a :: .ref a :: st) h Q := W_go f57_35 rfl
theorem f57_36 : fetch 57 36 = some (.getfield 36, 3, [6, 6, 2131, 0], .null) := by decide +kernel
theorem w57_36 : Wp d 57 36 [l0, l1] (.ref a :: st) h Q = gP (h.2 a) 6 6 (fun w => Wp d 57 39 [l0, l1] (w :: st) h Q) := W_get f57_36 rfl
theorem f57_39 : fetch 57 39 = some (.aload_n 0, 1, [], .null) := by decide +kernel
theorem w57_39 : Wp d 57 39 [some (.ref a), l1] st h Q = Wp d 57 40 [some (.ref a), l1] (.ref a :: st) h Q := W_go f57_39 rfl
theorem f57_40 : fetch 57 40 = some (.getfield 11, 3, [6, 1, 2121, 0], .null) := by decide +kernel
theorem w57_40 : Wp d 57 40 [l0, l1] (.ref a :: st) h Q = gP (h.2 a) 6 1 (fun w => Wp d 57 43 [l0, l1] (w :: st) h Q) := W_get f57_40 rfl
theorem f57_43 : fetch 57 43 = some (.iload_n 1, 1, [], .null) := by decide +kernel
theorem w57_43 : Wp d 57 43 [l0, some (.int x)] st h Q = Wp d 57 44 [l0, some (.int x)] (.int x :: st) h Q := W_go f57_43 rfl
theorem f57_44 : fetch 57 44 = some (.aaload, 1, [], .null) := by decide +kernel
theorem w57_44 : Wp d 57 44 [l0, l1] (.int x :: .ref a :: st) h Q = qP (h.2 a) x (fun w => Wp d 57 45 [l0, l1] (w :: st) h Q) := W_qld f57_44 rfl
theorem f57_45 : fetch 57 45 = some (.invokevirtual 106, 3, [6, 1, 2, 0, 5006, 1011, 5009, 5007, 5008], .null) := by decide +kernel
theorem w57_45 (hp : psum st ≤ 8) : Wp d 57 45 [l0, l1] ((.ref b) :: st) h Q = rP (h.2 b) 1 (Cp d 6 [(.ref b)] h (fun o => cK o (fun w h2 => Wp d 57 48 [l0, l1] (w.toList ++ st) h2 Q) (fun E h2 => Q (.inr E, h2)))) := (W_invV (st := st) f57_45 rfl rfl (by simp only [List.length_cons]; omega) rfl rfl hp).trans (by simp only [hm57, if_true])
theorem f57_48 : fetch 57 48 = some (.iadd, 1, [], .null) := by decide +kernel
theorem w57_48 : Wp d 57 48 [l0, l1] (.int y :: .int x :: st) h Q = Wp d 57 49 [l0, l1] (.int (x + y) :: st) h Q := W_go f57_48 rfl
theorem f57_49 : fetch 57 49 = some (.putfield 36, 3, [6, 6, 2131, 0], .null) := by decide +kernel
theorem w57_49 : Wp d 57 49 [l0, l1] (v :: .ref a :: st) h Q = pP (h.2 a) 6 6 (ftOf 6 6) v a (fun c => Wp d 57 52 [l0, l1] st (hset h a c) Q) := W_put f57_49 (by rfl)
theorem f57_52 : fetch 57 52 = some (.iinc 1 1, 3, [], .null) := by decide +kernel
theorem w57_52 : Wp d 57 52 [l0, some (.int x)] st h Q = Wp d 57 55 [kl l0, some (.int (x + (1 : Int32)))] st h Q := (W_iinc (y := (1 : Int32)) f57_52 rfl (by simp only [List.length_cons, List.length_nil]; omega) (by decide)).trans (by rw [pst1_succ]; rfl)
theorem f57_55 : fetch 57 55 = some (.goto (-53), 3, [], .null) := by decide +kernel
theorem w57_55 : Wp d 57 55 [l0, l1] st h Q = Wp d 57 2 [l0, l1] st h Q := W_go f57_55 rfl
theorem f57_58 : fetch 57 58 = some (.return_, 1, [], .null) := by decide +kernel
theorem w57_58 : Wp d 57 58 [l0, l1] [] h Q = Q (.inl none, h) := W_fin f57_58 rfl
theorem hm58 : mhs 58 = [] := by decide +kernel
theorem f58_0 : fetch 58 0 = some (.aload_n 0, 1, [], .null) := by decide +kernel
theorem w58_0 : Wp d 58 0 [some (.ref a), l1, l2] st h Q = Wp d 58 1 [some (.ref a), l1, l2] (.ref a :: st) h Q := W_go f58_0 rfl
theorem f58_1 : fetch 58 1 = some (.iconst 0, 1, [], .null) := by decide +kernel
theorem w58_1 : Wp d 58 1 [l0, l1, l2] st h Q = Wp d 58 2 [l0, l1, l2] (.int (0 : Int32) :: st) h Q := W_go f58_1 rfl
theorem f58_2 : fetch 58 2 = some (.putfield 33, 3, [6, 5, 2129, 0], .null) := by decide +kernel
theorem w58_2 : Wp d 58 2 [l0, l1, l2] (v :: .ref a :: st) h Q = pP (h.2 a) 6 5 (ftOf 6 5) v a (fun c => Wp d 58 5 [l0, l1, l2] st (hset h a c) Q) := W_put f58_2 (by rfl)
theorem f58_5 : fetch 58 5 = some (.aload_n 0, 1, [], .null) := by decide +kernel
theorem w58_5 : Wp d 58 5 [some (.ref a), l1, l2] st h Q = Wp d 58 6 [some (.ref a), l1, l2] (.ref a :: st) h Q := W_go f58_5 rfl
theorem f58_6 : fetch 58 6 = some (.dup, 1, [], .null) := by decide +kernel
theorem w58_6i : Wp d 58 6 [l0, l1, l2] (.int x :: st) h Q = Wp d 58 7 [l0, l1, l2] (.int x :: .int x :: st) h Q := W_go f58_6 rfl
theorem w58_6 : Wp d 58 6 [l0, l1, l2] (.ref a :: st) h Q = Wp d 58 7 [l0, l1, l2] (.ref a :: .ref a :: st) h Q := W_go f58_6 rfl
theorem f58_7 : fetch 58 7 = some (.getfield 29, 3, [6, 4, 2127, 0], .null) := by decide +kernel
theorem w58_7 : Wp d 58 7 [l0, l1, l2] (.ref a :: st) h Q = gP (h.2 a) 6 4 (fun w => Wp d 58 10 [l0, l1, l2] (w :: st) h Q) := W_get f58_7 rfl
theorem f58_10 : fetch 58 10 = some (.iconst 1, 1, [], .null) := by decide +kernel
theorem w58_10 : Wp d 58 10 [l0, l1, l2] st h Q = Wp d 58 11 [l0, l1, l2] (.int (1 : Int32) :: st) h Q := W_go f58_10 rfl
theorem f58_11 : fetch 58 11 = some (.iadd, 1, [], .null) := by decide +kernel
theorem w58_11 : Wp d 58 11 [l0, l1, l2] (.int y :: .int x :: st) h Q = Wp d 58 12 [l0, l1, l2] (.int (x + y) :: st) h Q := W_go f58_11 rfl
theorem f58_12 : fetch 58 12 = some (.putfield 29, 3, [6, 4, 2127, 0], .null) := by decide +kernel
theorem w58_12 : Wp d 58 12 [l0, l1, l2] (v :: .ref a :: st) h Q = pP (h.2 a) 6 4 (ftOf 6 4) v a (fun c => Wp d 58 15 [l0, l1, l2] st (hset h a c) Q) := W_put f58_12 (by rfl)
theorem f58_15 : fetch 58 15 = some (.iconst 0, 1, [], .null) := by decide +kernel
theorem w58_15 : Wp d 58 15 [l0, l1, l2] st h Q = Wp d 58 16 [l0, l1, l2] (.int (0 : Int32) :: st) h Q := W_go f58_15 rfl
theorem f58_16 : fetch 58 16 = some (.istore_n 1, 1, [], .null) := by decide +kernel
theorem w58_16 : Wp d 58 16 [l0, l1, l2] (.int x :: st) h Q = Wp d 58 17 [kl l0, some (.int x), l2] st h Q := (W_st1 (pc' := 17) (k := 1) f58_16 rfl rfl (by simp only [List.length_cons, List.length_nil]; omega)).trans (by rw [pst1_succ]; rfl)
theorem f58_17 : fetch 58 17 = some (.iload_n 1, 1, [], .null) := by decide +kernel
theorem w58_17 : Wp d 58 17 [l0, some (.int x), l2] st h Q = Wp d 58 18 [l0, some (.int x), l2] (.int x :: st) h Q := W_go f58_17 rfl
theorem f58_18 : fetch 58 18 = some (.aload_n 0, 1, [], .null) := by decide +kernel
theorem w58_18 : Wp d 58 18 [some (.ref a), l1, l2] st h Q = Wp d 58 19 [some (.ref a), l1, l2] (.ref a :: st) h Q := W_go f58_18 rfl
theorem f58_19 : fetch 58 19 = some (.getfield 23, 3, [6, 0, 2119, 0], .null) := by decide +kernel
theorem w58_19 : Wp d 58 19 [l0, l1, l2] (.ref a :: st) h Q = gP (h.2 a) 6 0 (fun w => Wp d 58 22 [l0, l1, l2] (w :: st) h Q) := W_get f58_19 rfl
theorem f58_22 : fetch 58 22 = some (.getfield 43, 3, [0, 0, 1055, 0], .null) := by decide +kernel
theorem w58_22 : Wp d 58 22 [l0, l1, l2] (.ref a :: st) h Q = gP (h.2 a) 0 0 (fun w => Wp d 58 25 [l0, l1, l2] (w :: st) h Q) := W_get f58_22 rfl
theorem f58_25 : fetch 58 25 = some (.if_icmp .ge 28, 3, [], .null) := by decide +kernel
theorem w58_25 : Wp d 58 25 [l0, l1, l2] (.int y :: .int x :: st) h Q = if icond .ge x y = true then Wp d 58 53 [l0, l1, l2] st h Q else Wp d 58 28 [l0, l1, l2] st h Q := W_if f58_25 rfl
theorem f58_28 : fetch 58 28 = some (.iload_n 1, 1, [], .null) := by decide +kernel
theorem w58_28 : Wp d 58 28 [l0, some (.int x), l2] st h Q = Wp d 58 29 [l0, some (.int x), l2] (.int x :: st) h Q := W_go f58_28 rfl
theorem f58_29 : fetch 58 29 = some (.aload_n 0, 1, [], .null) := by decide +kernel
theorem w58_29 : Wp d 58 29 [some (.ref a), l1, l2] st h Q = Wp d 58 30 [some (.ref a), l1, l2] (.ref a :: st) h Q := W_go f58_29 rfl
theorem f58_30 : fetch 58 30 = some (.getfield 11, 3, [6, 1, 2121, 0], .null) := by decide +kernel
theorem w58_30 : Wp d 58 30 [l0, l1, l2] (.ref a :: st) h Q = gP (h.2 a) 6 1 (fun w => Wp d 58 33 [l0, l1, l2] (w :: st) h Q) := W_get f58_30 rfl
theorem f58_33 : fetch 58 33 = some (.arraylength, 1, [], .null) := by decide +kernel
theorem w58_33 : Wp d 58 33 [l0, l1, l2] (.ref a :: st) h Q = nP (h.2 a) (fun w => Wp d 58 34 [l0, l1, l2] (.int w :: st) h Q) := W_len f58_33 rfl
theorem f58_34 : fetch 58 34 = some (.if_icmp .ge 19, 3, [], .null) := by decide +kernel
theorem w58_34 : Wp d 58 34 [l0, l1, l2] (.int y :: .int x :: st) h Q = if icond .ge x y = true then Wp d 58 53 [l0, l1, l2] st h Q else Wp d 58 37 [l0, l1, l2] st h Q := W_if f58_34 rfl
theorem f58_37 : fetch 58 37 = some (.aload_n 0, 1, [], .null) := by decide +kernel
theorem w58_37 : Wp d 58 37 [some (.ref a), l1, l2] st h Q = Wp d 58 38 [some (.ref a), l1, l2] (.ref a :: st) h Q := W_go f58_37 rfl
theorem f58_38 : fetch 58 38 = some (.getfield 11, 3, [6, 1, 2121, 0], .null) := by decide +kernel
theorem w58_38 : Wp d 58 38 [l0, l1, l2] (.ref a :: st) h Q = gP (h.2 a) 6 1 (fun w => Wp d 58 41 [l0, l1, l2] (w :: st) h Q) := W_get f58_38 rfl
theorem f58_41 : fetch 58 41 = some (.iload_n 1, 1, [], .null) := by decide +kernel
theorem w58_41 : Wp d 58 41 [l0, some (.int x), l2] st h Q = Wp d 58 42 [l0, some (.int x), l2] (.int x :: st) h Q := W_go f58_41 rfl
theorem f58_42 : fetch 58 42 = some (.aaload, 1, [], .null) := by decide +kernel
theorem w58_42 : Wp d 58 42 [l0, l1, l2] (.int x :: .ref a :: st) h Q = qP (h.2 a) x (fun w => Wp d 58 43 [l0, l1, l2] (w :: st) h Q) := W_qld f58_42 rfl
theorem f58_43 : fetch 58 43 = some (.iconst 0, 1, [], .null) := by decide +kernel
theorem w58_43 : Wp d 58 43 [l0, l1, l2] st h Q = Wp d 58 44 [l0, l1, l2] (.int (0 : Int32) :: st) h Q := W_go f58_43 rfl
theorem f58_44 : fetch 58 44 = some (.putfield 100, 3, [1, 6, 2049, 0], .null) := by decide +kernel
theorem w58_44 : Wp d 58 44 [l0, l1, l2] (v :: .ref a :: st) h Q = pP (h.2 a) 1 6 (ftOf 1 6) v a (fun c => Wp d 58 47 [l0, l1, l2] st (hset h a c) Q) := W_put f58_44 (by rfl)
theorem f58_47 : fetch 58 47 = some (.iinc 1 1, 3, [], .null) := by decide +kernel
theorem w58_47 : Wp d 58 47 [l0, some (.int x), l2] st h Q = Wp d 58 50 [kl l0, some (.int (x + (1 : Int32))), l2] st h Q := (W_iinc (y := (1 : Int32)) f58_47 rfl (by simp only [List.length_cons, List.length_nil]; omega) (by decide)).trans (by rw [pst1_succ]; rfl)
theorem f58_50 : fetch 58 50 = some (.goto (-33), 3, [], .null) := by decide +kernel
theorem w58_50 : Wp d 58 50 [l0, l1, l2] st h Q = Wp d 58 17 [l0, l1, l2] st h Q := W_go f58_50 rfl
theorem f58_53 : fetch 58 53 = some (.iconst 0, 1, [], .null) := by decide +kernel
theorem w58_53 : Wp d 58 53 [l0, l1, l2] st h Q = Wp d 58 54 [l0, l1, l2] (.int (0 : Int32) :: st) h Q := W_go f58_53 rfl
theorem f58_54 : fetch 58 54 = some (.istore_n 1, 1, [], .null) := by decide +kernel
theorem w58_54 : Wp d 58 54 [l0, l1, l2] (.int x :: st) h Q = Wp d 58 55 [kl l0, some (.int x), l2] st h Q := (W_st1 (pc' := 55) (k := 1) f58_54 rfl rfl (by simp only [List.length_cons, List.length_nil]; omega)).trans (by rw [pst1_succ]; rfl)
theorem f58_55 : fetch 58 55 = some (.iload_n 1, 1, [], .null) := by decide +kernel
theorem w58_55 : Wp d 58 55 [l0, some (.int x), l2] st h Q = Wp d 58 56 [l0, some (.int x), l2] (.int x :: st) h Q := W_go f58_55 rfl
theorem f58_56 : fetch 58 56 = some (.aload_n 0, 1, [], .null) := by decide +kernel
theorem w58_56 : Wp d 58 56 [some (.ref a), l1, l2] st h Q = Wp d 58 57 [some (.ref a), l1, l2] (.ref a :: st) h Q := W_go f58_56 rfl
theorem f58_57 : fetch 58 57 = some (.getfield 63, 3, [6, 3, 2125, 0], .null) := by decide +kernel
theorem w58_57 : Wp d 58 57 [l0, l1, l2] (.ref a :: st) h Q = gP (h.2 a) 6 3 (fun w => Wp d 58 60 [l0, l1, l2] (w :: st) h Q) := W_get f58_57 rfl
theorem f58_60 : fetch 58 60 = some (.if_icmp .ge 49, 3, [], .null) := by decide +kernel
theorem w58_60 : Wp d 58 60 [l0, l1, l2] (.int y :: .int x :: st) h Q = if icond .ge x y = true then Wp d 58 109 [l0, l1, l2] st h Q else Wp d 58 63 [l0, l1, l2] st h Q := W_if f58_60 rfl
theorem f58_63 : fetch 58 63 = some (.iload_n 1, 1, [], .null) := by decide +kernel
theorem w58_63 : Wp d 58 63 [l0, some (.int x), l2] st h Q = Wp d 58 64 [l0, some (.int x), l2] (.int x :: st) h Q := W_go f58_63 rfl
theorem f58_64 : fetch 58 64 = some (.aload_n 0, 1, [], .null) := by decide +kernel
theorem w58_64 : Wp d 58 64 [some (.ref a), l1, l2] st h Q = Wp d 58 65 [some (.ref a), l1, l2] (.ref a :: st) h Q := W_go f58_64 rfl
theorem f58_65 : fetch 58 65 = some (.getfield 19, 3, [6, 2, 2123, 0], .null) := by decide +kernel
theorem w58_65 : Wp d 58 65 [l0, l1, l2] (.ref a :: st) h Q = gP (h.2 a) 6 2 (fun w => Wp d 58 68 [l0, l1, l2] (w :: st) h Q) := W_get f58_65 rfl
theorem f58_68 : fetch 58 68 = some (.arraylength, 1, [], .null) := by decide +kernel
theorem w58_68 : Wp d 58 68 [l0, l1, l2] (.ref a :: st) h Q = nP (h.2 a) (fun w => Wp d 58 69 [l0, l1, l2] (.int w :: st) h Q) := W_len f58_68 rfl
theorem f58_69 : fetch 58 69 = some (.if_icmp .ge 40, 3, [], .null) := by decide +kernel
theorem w58_69 : Wp d 58 69 [l0, l1, l2] (.int y :: .int x :: st) h Q = if icond .ge x y = true then Wp d 58 109 [l0, l1, l2] st h Q else Wp d 58 72 [l0, l1, l2] st h Q := W_if f58_69 rfl
theorem f58_72 : fetch 58 72 = some (.aload_n 0, 1, [], .null) := by decide +kernel
theorem w58_72 : Wp d 58 72 [some (.ref a), l1, l2] st h Q = Wp d 58 73 [some (.ref a), l1, l2] (.ref a :: st) h Q := W_go f58_72 rfl
theorem f58_73 : fetch 58 73 = some (.getfield 19, 3, [6, 2, 2123, 0], .null) := by decide +kernel
theorem w58_73 : Wp d 58 73 [l0, l1, l2] (.ref a :: st) h Q = gP (h.2 a) 6 2 (fun w => Wp d 58 76 [l0, l1, l2] (w :: st) h Q) := W_get f58_73 rfl
theorem f58_76 : fetch 58 76 = some (.iload_n 1, 1, [], .null) := by decide +kernel
theorem w58_76 : Wp d 58 76 [l0, some (.int x), l2] st h Q = Wp d 58 77 [l0, some (.int x), l2] (.int x :: st) h Q := W_go f58_76 rfl
theorem f58_77 : fetch 58 77 = some (.aaload, 1, [], .null) := by decide +kernel
theorem w58_77 : Wp d 58 77 [l0, l1, l2] (.int x :: .ref a :: st) h Q = qP (h.2 a) x (fun w => Wp d 58 78 [l0, l1, l2] (w :: st) h Q) := W_qld f58_77 rfl
theorem f58_78 : fetch 58 78 = some (.astore_n 2, 1, [], .null) := by decide +kernel
theorem w58_78 : Wp d 58 78 [l0, l1, l2] (.ref a :: st) h Q = Wp d 58 79 [l0, kl l1, some (.ref a)] st h Q := (W_st1 (pc' := 79) (k := 2) f58_78 rfl rfl (by simp only [List.length_cons, List.length_nil]; omega)).trans (by rw [pst1_succ]; rfl)
theorem f58_79 : fetch 58 79 = some (.aload_n 2, 1, [], .null) := by decide +kernel
theorem w58_79 : Wp d 58 79 [l0, l1, some (.ref a)] st h Q = Wp d 58 80 [l0, l1, some (.ref a)] (.ref a :: st) h Q := W_go f58_79 rfl
theorem f58_80 : fetch 58 80 = some (.invokevirtual 109, 3, [10, 1, 3, 0, 5014, 1012, 3129, 3127, 3128], .null) := by decide +kernel
theorem w58_80 (hp : psum st ≤ 8) : Wp d 58 80 [l0, l1, l2] ((.ref b) :: st) h Q = rP (h.2 b) 2 (Cp d 10 [(.ref b)] h (fun o => cK o (fun w h2 => Wp d 58 83 [l0, l1, l2] (w.toList ++ st) h2 Q) (fun E h2 => Q (.inr E, h2)))) := (W_invV (st := st) f58_80 rfl rfl (by simp only [List.length_cons]; omega) rfl rfl hp).trans (by simp only [hm58, if_true])
theorem f58_83 : fetch 58 83 = some (.aload_n 2, 1, [], .null) := by decide +kernel
theorem w58_83 : Wp d 58 83 [l0, l1, some (.ref a)] st h Q = Wp d 58 84 [l0, l1, some (.ref a)] (.ref a :: st) h Q := W_go f58_83 rfl
theorem f58_84 : fetch 58 84 = some (.getfield 112, 3, [2, 3, 2081, 0], .null) := by decide +kernel
theorem w58_84 : Wp d 58 84 [l0, l1, l2] (.ref a :: st) h Q = gP (h.2 a) 2 3 (fun w => Wp d 58 87 [l0, l1, l2] (w :: st) h Q) := W_get f58_84 rfl
theorem f58_87 : fetch 58 87 = some (.iconst (-1), 1, [], .null) := by decide +kernel
theorem w58_87 : Wp d 58 87 [l0, l1, l2] st h Q = Wp d 58 88 [l0, l1, l2] (.int (-1 : Int32) :: st) h Q := W_go f58_87 rfl
theorem f58_88 : fetch 58 88 = some (.if_icmp .eq 15, 3, [], .null) := by decide +kernel
theorem w58_88 : Wp d 58 88 [l0, l1, l2] (.int y :: .int x :: st) h Q = if icond .eq x y = true then Wp d 58 103 [l0, l1, l2] st h Q else Wp d 58 91 [l0, l1, l2] st h Q := W_if f58_88 rfl
theorem f58_91 : fetch 58 91 = some (.aload_n 2, 1, [], .null) := by decide +kernel
theorem w58_91 : Wp d 58 91 [l0, l1, some (.ref a)] st h Q = Wp d 58 92 [l0, l1, some (.ref a)] (.ref a :: st) h Q := W_go f58_91 rfl
theorem f58_92 : fetch 58 92 = some (.aload_n 0, 1, [], .null) := by decide +kernel
theorem w58_92 : Wp d 58 92 [some (.ref a), l1, l2] st h Q = Wp d 58 93 [some (.ref a), l1, l2] (.ref a :: st) h Q := W_go f58_92 rfl
theorem f58_93 : fetch 58 93 = some (.getfield 23, 3, [6, 0, 2119, 0], .null) := by decide +kernel
theorem w58_93 : Wp d 58 93 [l0, l1, l2] (.ref a :: st) h Q = gP (h.2 a) 6 0 (fun w => Wp d 58 96 [l0, l1, l2] (w :: st) h Q) := W_get f58_93 rfl
theorem f58_96 : fetch 58 96 = some (.aload_n 2, 1, [], .null) := by decide +kernel
theorem w58_96 : Wp d 58 96 [l0, l1, some (.ref a)] st h Q = Wp d 58 97 [l0, l1, some (.ref a)] (.ref a :: st) h Q := W_go f58_96 rfl
theorem f58_97 : fetch 58 97 = some (.getfield 112, 3, [2, 3, 2081, 0], .null) := by decide +kernel
theorem w58_97 : Wp d 58 97 [l0, l1, l2] (.ref a :: st) h Q = gP (h.2 a) 2 3 (fun w => Wp d 58 100 [l0, l1, l2] (w :: st) h Q) := W_get f58_97 rfl
theorem f58_100 : fetch 58 100 = some (.invokevirtual 115, 3, [11, 3, 3, 0, 5015, 1012, 4129, 4127, 4128], .null) := by decide +kernel
theorem w58_100 (hp : psum st ≤ 8) : Wp d 58 100 [l0, l1, l2] (v2 :: v1 :: (.ref b) :: st) h Q = rP (h.2 b) 2 (Cp d 11 [(.ref b), v1, v2] h (fun o => cK o (fun w h2 => Wp d 58 103 [l0, l1, l2] (w.toList ++ st) h2 Q) (fun E h2 => Q (.inr E, h2)))) := (W_invV (st := st) f58_100 rfl rfl (by simp only [List.length_cons]; omega) rfl rfl hp).trans (by simp only [hm58, if_true])
theorem f58_103 : fetch 58 103 = some (.iinc 1 1, 3, [], .null) := by decide +kernel
theorem w58_103 : Wp d 58 103 [l0, some (.int x), l2] st h Q = Wp d 58 106 [kl l0, some (.int (x + (1 : Int32))), l2] st h Q := (W_iinc (y := (1 : Int32)) f58_103 rfl (by simp only [List.length_cons, List.length_nil]; omega) (by decide)).trans (by rw [pst1_succ]; rfl)
theorem f58_106 : fetch 58 106 = some (.goto (-51), 3, [], .null) := by decide +kernel
theorem w58_106 : Wp d 58 106 [l0, l1, l2] st h Q = Wp d 58 55 [l0, l1, l2] st h Q := W_go f58_106 rfl
theorem f58_109 : fetch 58 109 = some (.return_, 1, [], .null) := by decide +kernel
theorem w58_109 : Wp d 58 109 [l0, l1, l2] [] h Q = Q (.inl none, h) := W_fin f58_109 rfl
theorem hm59 : mhs 59 = [] := by decide +kernel
theorem f59_0 : fetch 59 0 = some (.aload_n 1, 1, [], .null) := by decide +kernel
theorem w59_0 : Wp d 59 0 [l0, some (.ref a)] st h Q = Wp d 59 1 [l0, some (.ref a)] (.ref a :: st) h Q := W_go f59_0 rfl
theorem f59_1 : fetch 59 1 = some (.getfield 119, 3, [2, 4, 2083, 0], .null) := by decide +kernel
theorem w59_1 : Wp d 59 1 [l0, l1] (.ref a :: st) h Q = gP (h.2 a) 2 4 (fun w => Wp d 59 4 [l0, l1] (w :: st) h Q) := W_get f59_1 rfl
theorem f59_4 : fetch 59 4 = some (.iconst (-1), 1, [], .null) := by decide +kernel
theorem w59_4 : Wp d 59 4 [l0, l1] st h Q = Wp d 59 5 [l0, l1] (.int (-1 : Int32) :: st) h Q := W_go f59_4 rfl
theorem f59_5 : fetch 59 5 = some (.if_icmp .ne 8, 3, [], .null) := by decide +kernel
theorem w59_5 : Wp d 59 5 [l0, l1] (.int y :: .int x :: st) h Q = if icond .ne x y = true then Wp d 59 13 [l0, l1] st h Q else Wp d 59 8 [l0, l1] st h Q := W_if f59_5 rfl
theorem f59_8 : fetch 59 8 = some (.aload_n 0, 1, [], .null) := by decide +kernel
theorem w59_8 : Wp d 59 8 [some (.ref a), l1] st h Q = Wp d 59 9 [some (.ref a), l1] (.ref a :: st) h Q := W_go f59_8 rfl
theorem f59_9 : fetch 59 9 = some (.aload_n 1, 1, [], .null) := by decide +kernel
theorem w59_9 : Wp d 59 9 [l0, some (.ref a)] st h Q = Wp d 59 10 [l0, some (.ref a)] (.ref a :: st) h Q := W_go f59_9 rfl
theorem f59_10 : fetch 59 10 = some (.invokevirtual 122, 3, [60, 2, 7, 0, 4191, 1010, 4194, 4193, 24], .null) := by decide +kernel
theorem w59_10 (hp : psum st ≤ 8) : Wp d 59 10 [l0, l1] (v1 :: (.ref b) :: st) h Q = rP (h.2 b) 6 (Cp d 60 [(.ref b), v1] h (fun o => cK o (fun w h2 => Wp d 59 13 [l0, l1] (w.toList ++ st) h2 Q) (fun E h2 => Q (.inr E, h2)))) := (W_invV (st := st) f59_10 rfl rfl (by simp only [List.length_cons]; omega) rfl rfl hp).trans (by simp only [hm59, if_true])
theorem f59_13 : fetch 59 13 = some (.aload_n 1, 1, [], .null) := by decide +kernel
theorem w59_13 : Wp d 59 13 [l0, some (.ref a)] st h Q = Wp d 59 14 [l0, some (.ref a)] (.ref a :: st) h Q := W_go f59_13 rfl
theorem f59_14 : fetch 59 14 = some (.getfield 119, 3, [2, 4, 2083, 0], .null) := by decide +kernel
theorem w59_14 : Wp d 59 14 [l0, l1] (.ref a :: st) h Q = gP (h.2 a) 2 4 (fun w => Wp d 59 17 [l0, l1] (w :: st) h Q) := W_get f59_14 rfl
theorem f59_17 : fetch 59 17 = some (.iconst (-1), 1, [], .null) := by decide +kernel
theorem w59_17 : Wp d 59 17 [l0, l1] st h Q = Wp d 59 18 [l0, l1] (.int (-1 : Int32) :: st) h Q := W_go f59_17 rfl
theorem f59_18 : fetch 59 18 = some (.if_icmp .ne 4, 3, [], .null) := by decide +kernel
theorem w59_18 : Wp d 59 18 [l0, l1] (.int y :: .int x :: st) h Q = if icond .ne x y = true then Wp d 59 22 [l0, l1] st h Q else Wp d 59 21 [l0, l1] st h Q := W_if f59_18 rfl
theorem f59_21 : fetch 59 21 = some (.return_, 1, [], .null) := by decide +kernel
theorem w59_21 : Wp d 59 21 [l0, l1] [] h Q = Q (.inl none, h) := W_fin f59_21 rfl
theorem f59_22 : fetch 59 22 = some (.aload_n 1, 1, [], .null) := by decide +kernel
theorem w59_22 : Wp d 59 22 [l0, some (.ref a)] st h Q = Wp d 59 23 [l0, some (.ref a)] (.ref a :: st) h Q := W_go f59_22 rfl
theorem f59_23 : fetch 59 23 = some (.dup, 1, [], .null) := by decide +kernel
theorem w59_23i : Wp d 59 23 [l0, l1] (.int x :: st) h Q = Wp d 59 24 [l0, l1] (.int x :: .int x :: st) h Q := W_go f59_23 rfl
theorem w59_23 : Wp d 59 23 [l0, l1] (.ref a :: st) h Q = Wp d 59 24 [l0, l1] (.ref a :: .ref a :: st) h Q := W_go f59_23 rfl
theorem f59_24 : fetch 59 24 = some (.getfield 125, 3, [2, 5, 2085, 0], .null) := by decide +kernel
theorem w59_24 : Wp d 59 24 [l0, l1] (.ref a :: st) h Q = gP (h.2 a) 2 5 (fun w => Wp d 59 27 [l0, l1] (w :: st) h Q) := W_get f59_24 rfl
theorem f59_27 : fetch 59 27 = some (.iconst 1, 1, [], .null) := by decide +kernel
theorem w59_27 : Wp d 59 27 [l0, l1] st h Q = Wp d 59 28 [l0, l1] (.int (1 : Int32) :: st) h Q := W_go f59_27 rfl
theorem f59_28 : fetch 59 28 = some (.isub, 1, [], .null) := by decide +kernel
theorem w59_28 : Wp d 59 28 [l0, l1] (.int y :: .int x :: st) h Q = Wp d 59 29 [l0, l1] (.int (x - y) :: st) h Q := W_go f59_28 rfl
theorem f59_29 : fetch 59 29 = some (.putfield 125, 3, [2, 5, 2085, 0], .null) := by decide +kernel
theorem w59_29 : Wp d 59 29 [l0, l1] (v :: .ref a :: st) h Q = pP (h.2 a) 2 5 (ftOf 2 5) v a (fun c => Wp d 59 32 [l0, l1] st (hset h a c) Q) := W_put f59_29 (by rfl)
theorem f59_32 : fetch 59 32 = some (.aload_n 1, 1, [], .null) := by decide +kernel
theorem w59_32 : Wp d 59 32 [l0, some (.ref a)] st h Q = Wp d 59 33 [l0, some (.ref a)] (.ref a :: st) h Q := W_go f59_32 rfl
theorem f59_33 : fetch 59 33 = some (.getfield 125, 3, [2, 5, 2085, 0], .null) := by decide +kernel
theorem w59_33 : Wp d 59 33 [l0, l1] (.ref a :: st) h Q = gP (h.2 a) 2 5 (fun w => Wp d 59 36 [l0, l1] (w :: st) h Q) := W_get f59_33 rfl
theorem f59_36 : fetch 59 36 = some (.ifCond .gt 8, 3, [], .null) := by decide +kernel
theorem w59_36 : Wp d 59 36 [l0, l1] (.int x :: st) h Q = if icond .gt x 0 = true then Wp d 59 44 [l0, l1] st h Q else Wp d 59 39 [l0, l1] st h Q := W_if f59_36 rfl
theorem f59_39 : fetch 59 39 = some (.aload_n 0, 1, [], .null) := by decide +kernel
theorem w59_39 : Wp d 59 39 [some (.ref a), l1] st h Q = Wp d 59 40 [some (.ref a), l1] (.ref a :: st) h Q := W_go f59_39 rfl
theorem f59_40 : fetch 59 40 = some (.aload_n 1, 1, [], .null) := by decide +kernel
theorem w59_40 : Wp d 59 40 [l0, some (.ref a)] st h Q = Wp d 59 41 [l0, some (.ref a)] (.ref a :: st) h Q := W_go f59_40 rfl
theorem f59_41 : fetch 59 41 = some (.invokevirtual 128, 3, [64, 2, 7, 0, 4228, 1010, 4231, 4230, 30], .null) := by decide +kernel
theorem w59_41 (hp : psum st ≤ 8) : Wp d 59 41 [l0, l1] (v1 :: (.ref b) :: st) h Q = rP (h.2 b) 6 (Cp d 64 [(.ref b), v1] h (fun o => cK o (fun w h2 => Wp d 59 44 [l0, l1] (w.toList ++ st) h2 Q) (fun E h2 => Q (.inr E, h2)))) := (W_invV (st := st) f59_41 rfl rfl (by simp only [List.length_cons]; omega) rfl rfl hp).trans (by simp only [hm59, if_true])
theorem f59_44 : fetch 59 44 = some (.return_, 1, [], .null) := by decide +kernel
theorem w59_44 : Wp d 59 44 [l0, l1] [] h Q = Q (.inl none, h) := W_fin f59_44 rfl
theorem hm60 : mhs 60 = [] := by decide +kernel
theorem f60_0 : fetch 60 0 = some (.iconst 0, 1, [], .null) := by decide +kernel
theorem w60_0 : Wp d 60 0 [l0, l1, l2, l3, l4] st h Q = Wp d 60 1 [l0, l1, l2, l3, l4] (.int (0 : Int32) :: st) h Q := W_go f60_0 rfl
theorem f60_1 : fetch 60 1 = some (.istore_n 2, 1, [], .null) := by decide +kernel
theorem w60_1 : Wp d 60 1 [l0, l1, l2, l3, l4] (.int x :: st) h Q = Wp d 60 2 [l0, kl l1, some (.int x), l3, l4] st h Q := (W_st1 (pc' := 2) (k := 2) f60_1 rfl rfl (by simp only [List.length_cons, List.length_nil]; omega)).trans (by rw [pst1_succ]; rfl)
theorem f60_2 : fetch 60 2 = some (.iload_n 2, 1, [], .null) := by decide +kernel
theorem w60_2 : Wp d 60 2 [l0, l1, some (.int x), l3, l4] st h Q = Wp d 60 3 [l0, l1, some (.int x), l3, l4] (.int x :: st) h Q := W_go f60_2 rfl
theorem f60_3 : fetch 60 3 = some (.bipush 30, 2, [], .null) := by decide +kernel
theorem w60_3 : Wp d 60 3 [l0, l1, l2, l3, l4] st h Q = Wp d 60 5 [l0, l1, l2, l3, l4] (.int (30 : Int32) :: st) h Q := W_go f60_3 rfl
theorem f60_5 : fetch 60 5 = some (.if_icmp .ge 55, 3, [], .null) := by decide +kernel
theorem w60_5 : Wp d 60 5 [l0, l1, l2, l3, l4] (.int y :: .int x :: st) h Q = if icond .ge x y = true then Wp d 60 60 [l0, l1, l2, l3, l4] st h Q else Wp d 60 8 [l0, l1, l2, l3, l4] st h Q := W_if f60_5 rfl
theorem f60_8 : fetch 60 8 = some (.aload_n 1, 1, [], .null) := by decide +kernel
theorem w60_8 : Wp d 60 8 [l0, some (.ref a), l2, l3, l4] st h Q = Wp d 60 9 [l0, some (.ref a), l2, l3, l4] (.ref a :: st) h Q := W_go f60_8 rfl
theorem f60_9 : fetch 60 9 = some (.aload_n 0, 1, [], .null) := by decide +kernel
theorem w60_9 : Wp d 60 9 [some (.ref a), l1, l2, l3, l4] st h Q = Wp d 60 10 [some (.ref a), l1, l2, l3, l4] (.ref a :: st) h Q := W_go f60_9 rfl
theorem f60_10 : fetch 60 10 = some (.getfield 23, 3, [6, 0, 2119, 0], .null) := by decide +kernel
theorem w60_10 : Wp d 60 10 [l0, l1, l2, l3, l4] (.ref a :: st) h Q = gP (h.2 a) 6 0 (fun w => Wp d 60 13 [l0, l1, l2, l3, l4] (w :: st) h Q) := W_get f60_10 rfl
theorem f60_13 : fetch 60 13 = some (.invokevirtual 131, 3, [15, 2, 3, 0, 4195, 1012, 4198, 4196, 4197], .null) := by decide +kernel
theorem w60_13 (hp : psum st ≤ 8) : Wp d 60 13 [l0, l1, l2, l3, l4] (v1 :: (.ref b) :: st) h Q = rP (h.2 b) 2 (Cp d 15 [(.ref b), v1] h (fun o => cK o (fun w h2 => Wp d 60 16 [l0, l1, l2, l3, l4] (w.toList ++ st) h2 Q) (fun E h2 => Q (.inr E, h2)))) := (W_invV (st := st) f60_13 rfl rfl (by simp only [List.length_cons]; omega) rfl rfl hp).trans (by simp only [hm60, if_true])
theorem f60_16 : fetch 60 16 = some (.istore_n 3, 1, [], .null) := by decide +kernel
theorem w60_16 : Wp d 60 16 [l0, l1, l2, l3, l4] (.int x :: st) h Q = Wp d 60 17 [l0, l1, kl l2, some (.int x), l4] st h Q := (W_st1 (pc' := 17) (k := 3) f60_16 rfl rfl (by simp only [List.length_cons, List.length_nil]; omega)).trans (by rw [pst1_succ]; rfl)
theorem f60_17 : fetch 60 17 = some (.iload_n 3, 1, [], .null) := by decide +kernel
theorem w60_17 : Wp d 60 17 [l0, l1, l2, some (.int x), l4] st h Q = Wp d 60 18 [l0, l1, l2, some (.int x), l4] (.int x :: st) h Q := W_go f60_17 rfl
theorem f60_18 : fetch 60 18 = some (.iconst (-1), 1, [], .null) := by decide +kernel
theorem w60_18 : Wp d 60 18 [l0, l1, l2, l3, l4] st h Q = Wp d 60 19 [l0, l1, l2, l3, l4] (.int (-1 : Int32) :: st) h Q := W_go f60_18 rfl
theorem f60_19 : fetch 60 19 = some (.if_icmp .ne 4, 3, [], .null) := by decide +kernel
theorem w60_19 : Wp d 60 19 [l0, l1, l2, l3, l4] (.int y :: .int x :: st) h Q = if icond .ne x y = true then Wp d 60 23 [l0, l1, l2, l3, l4] st h Q else Wp d 60 22 [l0, l1, l2, l3, l4] st h Q := W_if f60_19 rfl
theorem f60_22 : fetch 60 22 = some (.return_, 1, [], .null) := by decide +kernel
theorem w60_22 : Wp d 60 22 [l0, l1, l2, l3, l4] [] h Q = Q (.inl none, h) := W_fin f60_22 rfl
theorem f60_23 : fetch 60 23 = some (.aload_n 0, 1, [], .null) := by decide +kernel
theorem w60_23 : Wp d 60 23 [some (.ref a), l1, l2, l3, l4] st h Q = Wp d 60 24 [some (.ref a), l1, l2, l3, l4] (.ref a :: st) h Q := W_go f60_23 rfl
theorem f60_24 : fetch 60 24 = some (.aload_n 1, 1, [], .null) := by decide +kernel
theorem w60_24 : Wp d 60 24 [l0, some (.ref a), l2, l3, l4] st h Q = Wp d 60 25 [l0, some (.ref a), l2, l3, l4] (.ref a :: st) h Q := W_go f60_24 rfl
theorem f60_25 : fetch 60 25 = some (.iload_n 3, 1, [], .null) := by decide +kernel
theorem w60_25 : Wp d 60 25 [l0, l1, l2, some (.int x), l4] st h Q = Wp d 60 26 [l0, l1, l2, some (.int x), l4] (.int x :: st) h Q := W_go f60_25 rfl
theorem f60_26 : fetch 60 26 = some (.invokevirtual 135, 3, [61, 3, 7, 0, 4199, 1010, 4202, 4201, 25], .null) := by decide +kernel
theorem w60_26 (hp : psum st ≤ 8) : Wp d 60 26 [l0, l1, l2, l3, l4] (v2 :: v1 :: (.ref b) :: st) h Q = rP (h.2 b) 6 (Cp d 61 [(.ref b), v1, v2] h (fun o => cK o (fun w h2 => Wp d 60 29 [l0, l1, l2, l3, l4] (w.toList ++ st) h2 Q) (fun E h2 => Q (.inr E, h2)))) := (W_invV (st := st) f60_26 rfl rfl (by simp only [List.length_cons]; omega) rfl rfl hp).trans (by simp only [hm60, if_true])
theorem f60_29 : fetch 60 29 = some (.istore 4, 2, [], .null) := by decide +kernel
theorem w60_29 : Wp d 60 29 [l0, l1, l2, l3, l4] (.int x :: st) h Q = Wp d 60 31 [l0, l1, l2, kl l3, some (.int x)] st h Q := (W_st1 (pc' := 31) (k := 4) f60_29 rfl rfl (by simp only [List.length_cons, List.length_nil]; omega)).trans (by rw [pst1_succ]; rfl)
theorem f60_31 : fetch 60 31 = some (.iload 4, 2, [], .null) := by decide +kernel
theorem w60_31 : Wp d 60 31 [l0, l1, l2, l3, some (.int x)] st h Q = Wp d 60 33 [l0, l1, l2, l3, some (.int x)] (.int x :: st) h Q := W_go f60_31 rfl
theorem f60_33 : fetch 60 33 = some (.ifCond .le 15, 3, [], .null) := by decide +kernel
theorem w60_33 : Wp d 60 33 [l0, l1, l2, l3, l4] (.int x :: st) h Q = if icond .le x 0 = true then Wp d 60 48 [l0, l1, l2, l3, l4] st h Q else Wp d 60 36 [l0, l1, l2, l3, l4] st h Q := W_if f60_33 rfl
theorem f60_36 : fetch 60 36 = some (.aload_n 1, 1, [], .null) := by decide +kernel
theorem w60_36 : Wp d 60 36 [l0, some (.ref a), l2, l3, l4] st h Q = Wp d 60 37 [l0, some (.ref a), l2, l3, l4] (.ref a :: st) h Q := W_go f60_36 rfl
theorem f60_37 : fetch 60 37 = some (.iload_n 3, 1, [], .null) := by decide +kernel
theorem w60_37 : Wp d 60 37 [l0, l1, l2, some (.int x), l4] st h Q = Wp d 60 38 [l0, l1, l2, some (.int x), l4] (.int x :: st) h Q := W_go f60_37 rfl
theorem f60_38 : fetch 60 38 = some (.putfield 119, 3, [2, 4, 2083, 0], .null) := by decide +kernel
theorem w60_38 : Wp d 60 38 [l0, l1, l2, l3, l4] (v :: .ref a :: st) h Q = pP (h.2 a) 2 4 (ftOf 2 4) v a (fun c => Wp d 60 41 [l0, l1, l2, l3, l4] st (hset h a c) Q) := W_put f60_38 (by rfl)
theorem f60_41 : fetch 60 41 = some (.aload_n 1, 1, [], .null) := by decide +kernel
theorem w60_41 : Wp d 60 41 [l0, some (.ref a), l2, l3, l4] st h Q = Wp d 60 42 [l0, some (.ref a), l2, l3, l4] (.ref a :: st) h Q := W_go f60_41 rfl
theorem f60_42 : fetch 60 42 = some (.iload 4, 2, [], .null) := by decide +kernel
theorem w60_42 : Wp d 60 42 [l0, l1, l2, l3, some (.int x)] st h Q = Wp d 60 44 [l0, l1, l2, l3, some (.int x)] (.int x :: st) h Q := W_go f60_42 rfl
theorem f60_44 : fetch 60 44 = some (.putfield 125, 3, [2, 5, 2085, 0], .null) := by decide +kernel
theorem w60_44 : Wp d 60 44 [l0, l1, l2, l3, l4] (v :: .ref a :: st) h Q = pP (h.2 a) 2 5 (ftOf 2 5) v a (fun c => Wp d 60 47 [l0, l1, l2, l3, l4] st (hset h a c) Q) := W_put f60_44 (by rfl)
theorem f60_47 : fetch 60 47 = some (.return_, 1, [], .null) := by decide +kernel
theorem w60_47 : Wp d 60 47 [l0, l1, l2, l3, l4] [] h Q = Q (.inl none, h) := W_fin f60_47 rfl
theorem f60_48 : fetch 60 48 = some (.aload_n 0, 1, [], .null) := by decide +kernel
theorem w60_48 : Wp d 60 48 [some (.ref a), l1, l2, l3, l4] st h Q = Wp d 60 49 [some (.ref a), l1, l2, l3, l4] (.ref a :: st) h Q := W_go f60_48 rfl
theorem f60_49 : fetch 60 49 = some (.aload_n 1, 1, [], .null) := by decide +kernel
theorem w60_49 : Wp d 60 49 [l0, some (.ref a), l2, l3, l4] st h Q = Wp d 60 50 [l0, some (.ref a), l2, l3, l4] (.ref a :: st) h Q := W_go f60_49 rfl
theorem f60_50 : fetch 60 50 = some (.iload_n 3, 1, [], .null) := by decide +kernel
theorem w60_50 : Wp d 60 50 [l0, l1, l2, some (.int x), l4] st h Q = Wp d 60 51 [l0, l1, l2, some (.int x), l4] (.int x :: st) h Q := W_go f60_50 rfl
theorem f60_51 : fetch 60 51 = some (.invokevirtual 139, 3, [62, 3, 7, 0, 4214, 1010, 4217, 4216, 28], .null) := by decide +kernel
theorem w60_51 (hp : psum st ≤ 8) : Wp d 60 51 [l0, l1, l2, l3, l4] (v2 :: v1 :: (.ref b) :: st) h Q = rP (h.2 b) 6 (Cp d 62 [(.ref b), v1, v2] h (fun o => cK o (fun w h2 => Wp d 60 54 [l0, l1, l2, l3, l4] (w.toList ++ st) h2 Q) (fun E h2 => Q (.inr E, h2)))) := (W_invV (st := st) f60_51 rfl rfl (by simp only [List.length_cons]; omega) rfl rfl hp).trans (by simp only [hm60, if_true])
theorem f60_54 : fetch 60 54 = some (.iinc 2 1, 3, [], .null) := by decide +kernel
theorem w60_54 : Wp d 60 54 [l0, l1, some (.int x), l3, l4] st h Q = Wp d 60 57 [l0, kl l1, some (.int (x + (1 : Int32))), l3, l4] st h Q := (W_iinc (y := (1 : Int32)) f60_54 rfl (by simp only [List.length_cons, List.length_nil]; omega) (by decide)).trans (by rw [pst1_succ]; rfl)
theorem f60_57 : fetch 60 57 = some (.goto (-55), 3, [], .null) := by decide +kernel
theorem w60_57 : Wp d 60 57 [l0, l1, l2, l3, l4] st h Q = Wp d 60 2 [l0, l1, l2, l3, l4] st h Q := W_go f60_57 rfl
theorem f60_60 : fetch 60 60 = some (.aload_n 1, 1, [], .null) := by decide +kernel
theorem w60_60 : Wp d 60 60 [l0, some (.ref a), l2, l3, l4] st h Q = Wp d 60 61 [l0, some (.ref a), l2, l3, l4] (.ref a :: st) h Q := W_go f60_60 rfl
theorem f60_61 : fetch 60 61 = some (.invokevirtual 143, 3, [12, 1, 3, 0, 4227, 1012, 3133, 3131, 3132], .null) := by decide +kernel
theorem w60_61 (hp : psum st ≤ 8) : Wp d 60 61 [l0, l1, l2, l3, l4] ((.ref b) :: st) h Q = rP (h.2 b) 2 (Cp d 12 [(.ref b)] h (fun o => cK o (fun w h2 => Wp d 60 64 [l0, l1, l2, l3, l4] (w.toList ++ st) h2 Q) (fun E h2 => Q (.inr E, h2)))) := (W_invV (st := st) f60_61 rfl rfl (by simp only [List.length_cons]; omega) rfl rfl hp).trans (by simp only [hm60, if_true])
theorem f60_64 : fetch 60 64 = some (.return_, 1, [], .null) := by decide +kernel
theorem w60_64 : Wp d 60 64 [l0, l1, l2, l3, l4] [] h Q = Q (.inl none, h) := W_fin f60_64 rfl
theorem hm61 : mhs 61 = [] := by decide +kernel
theorem hr61 : mret 61 = (some .int) := by decide +kernel
theorem f61_0 : fetch 61 0 = some (.aload_n 0, 1, [], .null) := by decide +kernel
theorem w61_0 : Wp d 61 0 [some (.ref a), l1, l2] st h Q = Wp d 61 1 [some (.ref a), l1, l2] (.ref a :: st) h Q := W_go f61_0 rfl
theorem f61_1 : fetch 61 1 = some (.getfield 23, 3, [6, 0, 2119, 0], .null) := by decide +kernel
theorem w61_1 : Wp d 61 1 [l0, l1, l2] (.ref a :: st) h Q = gP (h.2 a) 6 0 (fun w => Wp d 61 4 [l0, l1, l2] (w :: st) h Q) := W_get f61_1 rfl
theorem f61_4 : fetch 61 4 = some (.getfield 146, 3, [0, 7, 1078, 0], .null) := by decide +kernel
theorem w61_4 : Wp d 61 4 [l0, l1, l2] (.ref a :: st) h Q = gP (h.2 a) 0 7 (fun w => Wp d 61 7 [l0, l1, l2] (w :: st) h Q) := W_get f61_4 rfl
theorem f61_7 : fetch 61 7 = some (.iload_n 2, 1, [], .null) := by decide +kernel
theorem w61_7 : Wp d 61 7 [l0, l1, some (.int x)] st h Q = Wp d 61 8 [l0, l1, some (.int x)] (.int x :: st) h Q := W_go f61_7 rfl
theorem f61_8 : fetch 61 8 = some (.invokestatic 52, 3, [115, 2, 0, 1, 3115, 1001, 3117, 3116], .null) := by decide +kernel
theorem w61_8 (hp : psum st ≤ 8) : Wp d 61 8 [l0, l1, l2] (v1 :: v0 :: st) h Q = Cp d 115 [v0, v1] h (fun o => cK o (fun w h2 => Wp d 61 11 [l0, l1, l2] (w.toList ++ st) h2 Q) (fun _ _ => False)) := (W_invS (st := st) f61_8 rfl rfl (by simp only [List.length_cons]; omega) rfl rfl hp)
theorem f61_11 : fetch 61 11 = some (.tableswitch 92 4 10 #[41, 41, 43, 41, 45, 92, 62], 41, [], .null) := by decide +kernel
theorem w61_11 : Wp d 61 11 [l0, l1, l2] (.int x :: st) h Q = Wp d 61 (ptable 11 92 4 10 #[41, 41, 43, 41, 45, 92, 62] x) [l0, l1, l2] st h Q := W_go f61_11 rfl
theorem f61_52 : fetch 61 52 = some (.iconst 1, 1, [], .null) := by decide +kernel
theorem w61_52 : Wp d 61 52 [l0, l1, l2] st h Q = Wp d 61 53 [l0, l1, l2] (.int (1 : Int32) :: st) h Q := W_go f61_52 rfl
theorem f61_53 : fetch 61 53 = some (.ireturn, 1, [], .null) := by decide +kernel
theorem w61_53 : Wp d 61 53 [l0, l1, l2] [.int x] h Q = Q (.inl (some (.int x)), h) := W_iret f61_53 hr61
theorem f61_54 : fetch 61 54 = some (.iconst 2, 1, [], .null) := by decide +kernel
theorem w61_54 : Wp d 61 54 [l0, l1, l2] st h Q = Wp d 61 55 [l0, l1, l2] (.int (2 : Int32) :: st) h Q := W_go f61_54 rfl
theorem f61_55 : fetch 61 55 = some (.ireturn, 1, [], .null) := by decide +kernel
theorem w61_55 : Wp d 61 55 [l0, l1, l2] [.int x] h Q = Q (.inl (some (.int x)), h) := W_iret f61_55 hr61
theorem f61_56 : fetch 61 56 = some (.aload_n 0, 1, [], .null) := by decide +kernel
theorem w61_56 : Wp d 61 56 [some (.ref a), l1, l2] st h Q = Wp d 61 57 [some (.ref a), l1, l2] (.ref a :: st) h Q := W_go f61_56 rfl
theorem f61_57 : fetch 61 57 = some (.aload_n 1, 1, [], .null) := by decide +kernel
theorem w61_57 : Wp d 61 57 [l0, some (.ref a), l2] st h Q = Wp d 61 58 [l0, some (.ref a), l2] (.ref a :: st) h Q := W_go f61_57 rfl
theorem f61_58 : fetch 61 58 = some (.aload_n 0, 1, [], .null) := by decide +kernel
theorem w61_58 : Wp d 61 58 [some (.ref a), l1, l2] st h Q = Wp d 61 59 [some (.ref a), l1, l2] (.ref a :: st) h Q := W_go f61_58 rfl
theorem f61_59 : fetch 61 59 = some (.getfield 23, 3, [6, 0, 2119, 0], .null) := by decide +kernel
theorem w61_59 : Wp d 61 59 [l0, l1, l2] (.ref a :: st) h Q = gP (h.2 a) 6 0 (fun w => Wp d 61 62 [l0, l1, l2] (w :: st) h Q) := W_get f61_59 rfl
theorem f61_62 : fetch 61 62 = some (.getfield 149, 3, [0, 8, 1081, 0], .null) := by decide +kernel
theorem w61_62 : Wp d 61 62 [l0, l1, l2] (.ref a :: st) h Q = gP (h.2 a) 0 8 (fun w => Wp d 61 65 [l0, l1, l2] (w :: st) h Q) := W_get f61_62 rfl
theorem f61_65 : fetch 61 65 = some (.iload_n 2, 1, [], .null) := by decide +kernel
theorem w61_65 : Wp d 61 65 [l0, l1, some (.int x)] st h Q = Wp d 61 66 [l0, l1, some (.int x)] (.int x :: st) h Q := W_go f61_65 rfl
theorem f61_66 : fetch 61 66 = some (.invokestatic 52, 3, [115, 2, 0, 1, 3115, 1001, 3117, 3116], .null) := by decide +kernel
theorem w61_66 (hp : psum st ≤ 8) : Wp d 61 66 [l0, l1, l2] (v1 :: v0 :: st) h Q = Cp d 115 [v0, v1] h (fun o => cK o (fun w h2 => Wp d 61 69 [l0, l1, l2] (w.toList ++ st) h2 Q) (fun _ _ => False)) := (W_invS (st := st) f61_66 rfl rfl (by simp only [List.length_cons]; omega) rfl rfl hp)
theorem f61_69 : fetch 61 69 = some (.invokevirtual 152, 3, [66, 3, 7, 0, 4203, 1010, 4206, 4205, 26], .null) := by decide +kernel
theorem w61_69 (hp : psum st ≤ 8) : Wp d 61 69 [l0, l1, l2] (v2 :: v1 :: (.ref b) :: st) h Q = rP (h.2 b) 6 (Cp d 66 [(.ref b), v1, v2] h (fun o => cK o (fun w h2 => Wp d 61 72 [l0, l1, l2] (w.toList ++ st) h2 Q) (fun E h2 => Q (.inr E, h2)))) := (W_invV (st := st) f61_69 rfl rfl (by simp only [List.length_cons]; omega) rfl rfl hp).trans (by simp only [hm61, if_true])
theorem f61_72 : fetch 61 72 = some (.ireturn, 1, [], .null) := by decide +kernel
theorem w61_72 : Wp d 61 72 [l0, l1, l2] [.int x] h Q = Q (.inl (some (.int x)), h) := W_iret f61_72 hr61
theorem f61_73 : fetch 61 73 = some (.aload_n 1, 1, [], .null) := by decide +kernel
theorem w61_73 : Wp d 61 73 [l0, some (.ref a), l2] st h Q = Wp d 61 74 [l0, some (.ref a), l2] (.ref a :: st) h Q := W_go f61_73 rfl
theorem f61_74 : fetch 61 74 = some (.getfield 155, 3, [2, 2, 2077, 0], .null) := by decide +kernel
theorem w61_74 : Wp d 61 74 [l0, l1, l2] (.ref a :: st) h Q = gP (h.2 a) 2 2 (fun w => Wp d 61 77 [l0, l1, l2] (w :: st) h Q) := W_get f61_74 rfl
theorem f61_77 : fetch 61 77 = some (.aload_n 0, 1, [], .null) := by decide +kernel
theorem w61_77 : Wp d 61 77 [some (.ref a), l1, l2] st h Q = Wp d 61 78 [some (.ref a), l1, l2] (.ref a :: st) h Q := W_go f61_77 rfl
theorem f61_78 : fetch 61 78 = some (.getfield 23, 3, [6, 0, 2119, 0], .null) := by decide +kernel
theorem w61_78 : Wp d 61 78 [l0, l1, l2] (.ref a :: st) h Q = gP (h.2 a) 6 0 (fun w => Wp d 61 81 [l0, l1, l2] (w :: st) h Q) := W_get f61_78 rfl
theorem f61_81 : fetch 61 81 = some (.getfield 48, 3, [0, 4, 1067, 0], .null) := by decide +kernel
theorem w61_81 : Wp d 61 81 [l0, l1, l2] (.ref a :: st) h Q = gP (h.2 a) 0 4 (fun w => Wp d 61 84 [l0, l1, l2] (w :: st) h Q) := W_get f61_81 rfl
theorem f61_84 : fetch 61 84 = some (.aload_n 0, 1, [], .null) := by decide +kernel
theorem w61_84 : Wp d 61 84 [some (.ref a), l1, l2] st h Q = Wp d 61 85 [some (.ref a), l1, l2] (.ref a :: st) h Q := W_go f61_84 rfl
theorem f61_85 : fetch 61 85 = some (.getfield 23, 3, [6, 0, 2119, 0], .null) := by decide +kernel
theorem w61_85 : Wp d 61 85 [l0, l1, l2] (.ref a :: st) h Q = gP (h.2 a) 6 0 (fun w => Wp d 61 88 [l0, l1, l2] (w :: st) h Q) := W_get f61_85 rfl
theorem f61_88 : fetch 61 88 = some (.getfield 149, 3, [0, 8, 1081, 0], .null) := by decide +kernel
theorem w61_88 : Wp d 61 88 [l0, l1, l2] (.ref a :: st) h Q = gP (h.2 a) 0 8 (fun w => Wp d 61 91 [l0, l1, l2] (w :: st) h Q) := W_get f61_88 rfl
theorem f61_91 : fetch 61 91 = some (.iload_n 2, 1, [], .null) := by decide +kernel
theorem w61_91 : Wp d 61 91 [l0, l1, some (.int x)] st h Q = Wp d 61 92 [l0, l1, some (.int x)] (.int x :: st) h Q := W_go f61_91 rfl
theorem f61_92 : fetch 61 92 = some (.invokestatic 52, 3, [115, 2, 0, 1, 3115, 1001, 3117, 3116], .null) := by decide +kernel
theorem w61_92 (hp : psum st ≤ 8) : Wp d 61 92 [l0, l1, l2] (v1 :: v0 :: st) h Q = Cp d 115 [v0, v1] h (fun o => cK o (fun w h2 => Wp d 61 95 [l0, l1, l2] (w.toList ++ st) h2 Q) (fun _ _ => False)) := (W_invS (st := st) f61_92 rfl rfl (by simp only [List.length_cons]; omega) rfl rfl hp)
theorem f61_95 : fetch 61 95 = some (.invokestatic 52, 3, [115, 2, 0, 1, 3115, 1001, 3117, 3116], .null) := by decide +kernel
theorem w61_95 (hp : psum st ≤ 8) : Wp d 61 95 [l0, l1, l2] (v1 :: v0 :: st) h Q = Cp d 115 [v0, v1] h (fun o => cK o (fun w h2 => Wp d 61 98 [l0, l1, l2] (w.toList ++ st) h2 Q) (fun _ _ => False)) := (W_invS (st := st) f61_95 rfl rfl (by simp only [List.length_cons]; omega) rfl rfl hp)
theorem f61_98 : fetch 61 98 = some (.isub, 1, [], .null) := by decide +kernel
theorem w61_98 : Wp d 61 98 [l0, l1, l2] (.int y :: .int x :: st) h Q = Wp d 61 99 [l0, l1, l2] (.int (x - y) :: st) h Q := W_go f61_98 rfl
theorem f61_99 : fetch 61 99 = some (.invokestatic 158, 3, [9997, 0, 4211, 4212, 1021, 4213], .null) := by decide +kernel
theorem w61_99 (hp : psum st ≤ 8) : Wp d 61 99 [l0, l1, l2] (.int x :: st) h Q = Wp d 61 102 [l0, l1, l2] (.int (if 0 ≤ x then x else 0 - x) :: st) h Q := W_go f61_99 (by simp only [pstep, pmath, if_pos hp]; rfl)
theorem f61_102 : fetch 61 102 = some (.ireturn, 1, [], .null) := by decide +kernel
theorem w61_102 : Wp d 61 102 [l0, l1, l2] [.int x] h Q = Q (.inl (some (.int x)), h) := W_iret f61_102 hr61
theorem f61_103 : fetch 61 103 = some (.iconst 0, 1, [], .null) := by decide +kernel
theorem w61_103 : Wp d 61 103 [l0, l1, l2] st h Q = Wp d 61 104 [l0, l1, l2] (.int (0 : Int32) :: st) h Q := W_go f61_103 rfl
theorem f61_104 : fetch 61 104 = some (.ireturn, 1, [], .null) := by decide +kernel
theorem w61_104 : Wp d 61 104 [l0, l1, l2] [.int x] h Q = Q (.inl (some (.int x)), h) := W_iret f61_104 hr61
theorem hm62 : mhs 62 = [] := by decide +kernel
theorem f62_0 : fetch 62 0 = some (.aload_n 0, 1, [], .null) := by decide +kernel
theorem w62_0 : Wp d 62 0 [some (.ref a), l1, l2, l3] st h Q = Wp d 62 1 [some (.ref a), l1, l2, l3] (.ref a :: st) h Q := W_go f62_0 rfl
theorem f62_1 : fetch 62 1 = some (.getfield 23, 3, [6, 0, 2119, 0], .null) := by decide +kernel
theorem w62_1 : Wp d 62 1 [l0, l1, l2, l3] (.ref a :: st) h Q = gP (h.2 a) 6 0 (fun w => Wp d 62 4 [l0, l1, l2, l3] (w :: st) h Q) := W_get f62_1 rfl
theorem f62_4 : fetch 62 4 = some (.getfield 149, 3, [0, 8, 1081, 0], .null) := by decide +kernel
theorem w62_4 : Wp d 62 4 [l0, l1, l2, l3] (.ref a :: st) h Q = gP (h.2 a) 0 8 (fun w => Wp d 62 7 [l0, l1, l2, l3] (w :: st) h Q) := W_get f62_4 rfl
theorem f62_7 : fetch 62 7 = some (.iload_n 2, 1, [], .null) := by decide +kernel
theorem w62_7 : Wp d 62 7 [l0, l1, some (.int x), l3] st h Q = Wp d 62 8 [l0, l1, some (.int x), l3] (.int x :: st) h Q := W_go f62_7 rfl
theorem f62_8 : fetch 62 8 = some (.invokestatic 52, 3, [115, 2, 0, 1, 3115, 1001, 3117, 3116], .null) := by decide +kernel
theorem w62_8 (hp : psum st ≤ 8) : Wp d 62 8 [l0, l1, l2, l3] (v1 :: v0 :: st) h Q = Cp d 115 [v0, v1] h (fun o => cK o (fun w h2 => Wp d 62 11 [l0, l1, l2, l3] (w.toList ++ st) h2 Q) (fun _ _ => False)) := (W_invS (st := st) f62_8 rfl rfl (by simp only [List.length_cons]; omega) rfl rfl hp)
theorem f62_11 : fetch 62 11 = some (.istore_n 3, 1, [], .null) := by decide +kernel
theorem w62_11 : Wp d 62 11 [l0, l1, l2, l3] (.int x :: st) h Q = Wp d 62 12 [l0, l1, kl l2, some (.int x)] st h Q := (W_st1 (pc' := 12) (k := 3) f62_11 rfl rfl (by simp only [List.length_cons, List.length_nil]; omega)).trans (by rw [pst1_succ]; rfl)
theorem f62_12 : fetch 62 12 = some (.aload_n 0, 1, [], .null) := by decide +kernel
theorem w62_12 : Wp d 62 12 [some (.ref a), l1, l2, l3] st h Q = Wp d 62 13 [some (.ref a), l1, l2, l3] (.ref a :: st) h Q := W_go f62_12 rfl
theorem f62_13 : fetch 62 13 = some (.getfield 23, 3, [6, 0, 2119, 0], .null) := by decide +kernel
theorem w62_13 : Wp d 62 13 [l0, l1, l2, l3] (.ref a :: st) h Q = gP (h.2 a) 6 0 (fun w => Wp d 62 16 [l0, l1, l2, l3] (w :: st) h Q) := W_get f62_13 rfl
theorem f62_16 : fetch 62 16 = some (.getfield 146, 3, [0, 7, 1078, 0], .null) := by decide +kernel
theorem w62_16 : Wp d 62 16 [l0, l1, l2, l3] (.ref a :: st) h Q = gP (h.2 a) 0 7 (fun w => Wp d 62 19 [l0, l1, l2, l3] (w :: st) h Q) := W_get f62_16 rfl
theorem f62_19 : fetch 62 19 = some (.iload_n 2, 1, [], .null) := by decide +kernel
theorem w62_19 : Wp d 62 19 [l0, l1, some (.int x), l3] st h Q = Wp d 62 20 [l0, l1, some (.int x), l3] (.int x :: st) h Q := W_go f62_19 rfl
theorem f62_20 : fetch 62 20 = some (.invokestatic 52, 3, [115, 2, 0, 1, 3115, 1001, 3117, 3116], .null) := by decide +kernel
theorem w62_20 (hp : psum st ≤ 8) : Wp d 62 20 [l0, l1, l2, l3] (v1 :: v0 :: st) h Q = Cp d 115 [v0, v1] h (fun o => cK o (fun w h2 => Wp d 62 23 [l0, l1, l2, l3] (w.toList ++ st) h2 Q) (fun _ _ => False)) := (W_invS (st := st) f62_20 rfl rfl (by simp only [List.length_cons]; omega) rfl rfl hp)
theorem f62_23 : fetch 62 23 = some (.tableswitch 127 9 13 #[33, 127, 46, 65, 89], 33, [], .null) := by decide +kernel
theorem w62_23 : Wp d 62 23 [l0, l1, l2, l3] (.int x :: st) h Q = Wp d 62 (ptable 23 127 9 13 #[33, 127, 46, 65, 89] x) [l0, l1, l2, l3] st h Q := W_go f62_23 rfl
theorem f62_56 : fetch 62 56 = some (.aload_n 1, 1, [], .null) := by decide +kernel
theorem w62_56 : Wp d 62 56 [l0, some (.ref a), l2, l3] st h Q = Wp d 62 57 [l0, some (.ref a), l2, l3] (.ref a :: st) h Q := W_go f62_56 rfl
theorem f62_57 : fetch 62 57 = some (.aload_n 0, 1, [], .null) := by decide +kernel
theorem w62_57 : Wp d 62 57 [some (.ref a), l1, l2, l3] st h Q = Wp d 62 58 [some (.ref a), l1, l2, l3] (.ref a :: st) h Q := W_go f62_57 rfl
theorem f62_58 : fetch 62 58 = some (.aload_n 1, 1, [], .null) := by decide +kernel
theorem w62_58 : Wp d 62 58 [l0, some (.ref a), l2, l3] st h Q = Wp d 62 59 [l0, some (.ref a), l2, l3] (.ref a :: st) h Q := W_go f62_58 rfl
theorem f62_59 : fetch 62 59 = some (.iload_n 3, 1, [], .null) := by decide +kernel
theorem w62_59 : Wp d 62 59 [l0, l1, l2, some (.int x)] st h Q = Wp d 62 60 [l0, l1, l2, some (.int x)] (.int x :: st) h Q := W_go f62_59 rfl
theorem f62_60 : fetch 62 60 = some (.invokevirtual 152, 3, [66, 3, 7, 0, 4203, 1010, 4206, 4205, 26], .null) := by decide +kernel
theorem w62_60 (hp : psum st ≤ 8) : Wp d 62 60 [l0, l1, l2, l3] (v2 :: v1 :: (.ref b) :: st) h Q = rP (h.2 b) 6 (Cp d 66 [(.ref b), v1, v2] h (fun o => cK o (fun w h2 => Wp d 62 63 [l0, l1, l2, l3] (w.toList ++ st) h2 Q) (fun E h2 => Q (.inr E, h2)))) := (W_invV (st := st) f62_60 rfl rfl (by simp only [List.length_cons]; omega) rfl rfl hp).trans (by simp only [hm62, if_true])
theorem f62_63 : fetch 62 63 = some (.invokevirtual 163, 3, [16, 2, 3, 0, 4218, 1012, 4221, 4219, 4220], .null) := by decide +kernel
theorem w62_63 (hp : psum st ≤ 8) : Wp d 62 63 [l0, l1, l2, l3] (v1 :: (.ref b) :: st) h Q = rP (h.2 b) 2 (Cp d 16 [(.ref b), v1] h (fun o => cK o (fun w h2 => Wp d 62 66 [l0, l1, l2, l3] (w.toList ++ st) h2 Q) (fun E h2 => Q (.inr E, h2)))) := (W_invV (st := st) f62_63 rfl rfl (by simp only [List.length_cons]; omega) rfl rfl hp).trans (by simp only [hm62, if_true])
theorem f62_66 : fetch 62 66 = some (.goto 84, 3, [], .null) := by decide +kernel
theorem w62_66 : Wp d 62 66 [l0, l1, l2, l3] st h Q = Wp d 62 150 [l0, l1, l2, l3] st h Q := W_go f62_66 rfl
theorem f62_69 : fetch 62 69 = some (.aload_n 1, 1, [], .null) := by decide +kernel
theorem w62_69 : Wp d 62 69 [l0, some (.ref a), l2, l3] st h Q = Wp d 62 70 [l0, some (.ref a), l2, l3] (.ref a :: st) h Q := W_go f62_69 rfl
theorem f62_70 : fetch 62 70 = some (.aload_n 0, 1, [], .null) := by decide +kernel
theorem w62_70 : Wp d 62 70 [some (.ref a), l1, l2, l3] st h Q = Wp d 62 71 [some (.ref a), l1, l2, l3] (.ref a :: st) h Q := W_go f62_70 rfl
theorem f62_71 : fetch 62 71 = some (.getfield 23, 3, [6, 0, 2119, 0], .null) := by decide +kernel
theorem w62_71 : Wp d 62 71 [l0, l1, l2, l3] (.ref a :: st) h Q = gP (h.2 a) 6 0 (fun w => Wp d 62 74 [l0, l1, l2, l3] (w :: st) h Q) := W_get f62_71 rfl
theorem f62_74 : fetch 62 74 = some (.getfield 166, 3, [0, 6, 1075, 0], .null) := by decide +kernel
theorem w62_74 : Wp d 62 74 [l0, l1, l2, l3] (.ref a :: st) h Q = gP (h.2 a) 0 6 (fun w => Wp d 62 77 [l0, l1, l2, l3] (w :: st) h Q) := W_get f62_74 rfl
theorem f62_77 : fetch 62 77 = some (.iload_n 3, 1, [], .null) := by decide +kernel
theorem w62_77 : Wp d 62 77 [l0, l1, l2, some (.int x)] st h Q = Wp d 62 78 [l0, l1, l2, some (.int x)] (.int x :: st) h Q := W_go f62_77 rfl
theorem f62_78 : fetch 62 78 = some (.invokestatic 52, 3, [115, 2, 0, 1, 3115, 1001, 3117, 3116], .null) := by decide +kernel
theorem w62_78 (hp : psum st ≤ 8) : Wp d 62 78 [l0, l1, l2, l3] (v1 :: v0 :: st) h Q = Cp d 115 [v0, v1] h (fun o => cK o (fun w h2 => Wp d 62 81 [l0, l1, l2, l3] (w.toList ++ st) h2 Q) (fun _ _ => False)) := (W_invS (st := st) f62_78 rfl rfl (by simp only [List.length_cons]; omega) rfl rfl hp)
theorem f62_81 : fetch 62 81 = some (.iconst 1, 1, [], .null) := by decide +kernel
theorem w62_81 : Wp d 62 81 [l0, l1, l2, l3] st h Q = Wp d 62 82 [l0, l1, l2, l3] (.int (1 : Int32) :: st) h Q := W_go f62_81 rfl
theorem f62_82 : fetch 62 82 = some (.invokevirtual 169, 3, [14, 3, 3, 0, 4222, 1012, 4133, 4131, 4132], .null) := by decide +kernel
theorem w62_82 (hp : psum st ≤ 8) : Wp d 62 82 [l0, l1, l2, l3] (v2 :: v1 :: (.ref b) :: st) h Q = rP (h.2 b) 2 (Cp d 14 [(.ref b), v1, v2] h (fun o => cK o (fun w h2 => Wp d 62 85 [l0, l1, l2, l3] (w.toList ++ st) h2 Q) (fun E h2 => Q (.inr E, h2)))) := (W_invV (st := st) f62_82 rfl rfl (by simp only [List.length_cons]; omega) rfl rfl hp).trans (by simp only [hm62, if_true])
theorem f62_85 : fetch 62 85 = some (.goto 65, 3, [], .null) := by decide +kernel
theorem w62_85 : Wp d 62 85 [l0, l1, l2, l3] st h Q = Wp d 62 150 [l0, l1, l2, l3] st h Q := W_go f62_85 rfl
theorem f62_88 : fetch 62 88 = some (.aload_n 1, 1, [], .null) := by decide +kernel
theorem w62_88 : Wp d 62 88 [l0, some (.ref a), l2, l3] st h Q = Wp d 62 89 [l0, some (.ref a), l2, l3] (.ref a :: st) h Q := W_go f62_88 rfl
theorem f62_89 : fetch 62 89 = some (.aload_n 0, 1, [], .null) := by decide +kernel
theorem w62_89 : Wp d 62 89 [some (.ref a), l1, l2, l3] st h Q = Wp d 62 90 [some (.ref a), l1, l2, l3] (.ref a :: st) h Q := W_go f62_89 rfl
theorem f62_90 : fetch 62 90 = some (.getfield 23, 3, [6, 0, 2119, 0], .null) := by decide +kernel
theorem w62_90 : Wp d 62 90 [l0, l1, l2, l3] (.ref a :: st) h Q = gP (h.2 a) 6 0 (fun w => Wp d 62 93 [l0, l1, l2, l3] (w :: st) h Q) := W_get f62_90 rfl
theorem f62_93 : fetch 62 93 = some (.getfield 172, 3, [0, 10, 1087, 0], .null) := by decide +kernel
theorem w62_93 : Wp d 62 93 [l0, l1, l2, l3] (.ref a :: st) h Q = gP (h.2 a) 0 10 (fun w => Wp d 62 96 [l0, l1, l2, l3] (w :: st) h Q) := W_get f62_93 rfl
theorem f62_96 : fetch 62 96 = some (.iload_n 2, 1, [], .null) := by decide +kernel
theorem w62_96 : Wp d 62 96 [l0, l1, some (.int x), l3] st h Q = Wp d 62 97 [l0, l1, some (.int x), l3] (.int x :: st) h Q := W_go f62_96 rfl
theorem f62_97 : fetch 62 97 = some (.invokestatic 52, 3, [115, 2, 0, 1, 3115, 1001, 3117, 3116], .null) := by decide +kernel
theorem w62_97 (hp : psum st ≤ 8) : Wp d 62 97 [l0, l1, l2, l3] (v1 :: v0 :: st) h Q = Cp d 115 [v0, v1] h (fun o => cK o (fun w h2 => Wp d 62 100 [l0, l1, l2, l3] (w.toList ++ st) h2 Q) (fun _ _ => False)) := (W_invS (st := st) f62_97 rfl rfl (by simp only [List.length_cons]; omega) rfl rfl hp)
theorem f62_100 : fetch 62 100 = some (.aload_n 0, 1, [], .null) := by decide +kernel
theorem w62_100 : Wp d 62 100 [some (.ref a), l1, l2, l3] st h Q = Wp d 62 101 [some (.ref a), l1, l2, l3] (.ref a :: st) h Q := W_go f62_100 rfl
theorem f62_101 : fetch 62 101 = some (.aload_n 1, 1, [], .null) := by decide +kernel
theorem w62_101 : Wp d 62 101 [l0, some (.ref a), l2, l3] st h Q = Wp d 62 102 [l0, some (.ref a), l2, l3] (.ref a :: st) h Q := W_go f62_101 rfl
theorem f62_102 : fetch 62 102 = some (.iload_n 3, 1, [], .null) := by decide +kernel
theorem w62_102 : Wp d 62 102 [l0, l1, l2, some (.int x)] st h Q = Wp d 62 103 [l0, l1, l2, some (.int x)] (.int x :: st) h Q := W_go f62_102 rfl
theorem f62_103 : fetch 62 103 = some (.invokevirtual 152, 3, [66, 3, 7, 0, 4203, 1010, 4206, 4205, 26], .null) := by decide +kernel
theorem w62_103 (hp : psum st ≤ 8) : Wp d 62 103 [l0, l1, l2, l3] (v2 :: v1 :: (.ref b) :: st) h Q = rP (h.2 b) 6 (Cp d 66 [(.ref b), v1, v2] h (fun o => cK o (fun w h2 => Wp d 62 106 [l0, l1, l2, l3] (w.toList ++ st) h2 Q) (fun E h2 => Q (.inr E, h2)))) := (W_invV (st := st) f62_103 rfl rfl (by simp only [List.length_cons]; omega) rfl rfl hp).trans (by simp only [hm62, if_true])
theorem f62_106 : fetch 62 106 = some (.invokevirtual 169, 3, [14, 3, 3, 0, 4222, 1012, 4133, 4131, 4132], .null) := by decide +kernel
theorem w62_106 (hp : psum st ≤ 8) : Wp d 62 106 [l0, l1, l2, l3] (v2 :: v1 :: (.ref b) :: st) h Q = rP (h.2 b) 2 (Cp d 14 [(.ref b), v1, v2] h (fun o => cK o (fun w h2 => Wp d 62 109 [l0, l1, l2, l3] (w.toList ++ st) h2 Q) (fun E h2 => Q (.inr E, h2)))) := (W_invV (st := st) f62_106 rfl rfl (by simp only [List.length_cons]; omega) rfl rfl hp).trans (by simp only [hm62, if_true])
theorem f62_109 : fetch 62 109 = some (.goto 41, 3, [], .null) := by decide +kernel
theorem w62_109 : Wp d 62 109 [l0, l1, l2, l3] st h Q = Wp d 62 150 [l0, l1, l2, l3] st h Q := W_go f62_109 rfl
theorem f62_112 : fetch 62 112 = some (.aload_n 1, 1, [], .null) := by decide +kernel
theorem w62_112 : Wp d 62 112 [l0, some (.ref a), l2, l3] st h Q = Wp d 62 113 [l0, some (.ref a), l2, l3] (.ref a :: st) h Q := W_go f62_112 rfl
theorem f62_113 : fetch 62 113 = some (.aload_n 0, 1, [], .null) := by decide +kernel
theorem w62_113 : Wp d 62 113 [some (.ref a), l1, l2, l3] st h Q = Wp d 62 114 [some (.ref a), l1, l2, l3] (.ref a :: st) h Q := W_go f62_113 rfl
theorem f62_114 : fetch 62 114 = some (.aload_n 1, 1, [], .null) := by decide +kernel
theorem w62_114 : Wp d 62 114 [l0, some (.ref a), l2, l3] st h Q = Wp d 62 115 [l0, some (.ref a), l2, l3] (.ref a :: st) h Q := W_go f62_114 rfl
theorem f62_115 : fetch 62 115 = some (.iload_n 2, 1, [], .null) := by decide +kernel
theorem w62_115 : Wp d 62 115 [l0, l1, some (.int x), l3] st h Q = Wp d 62 116 [l0, l1, some (.int x), l3] (.int x :: st) h Q := W_go f62_115 rfl
theorem f62_116 : fetch 62 116 = some (.invokevirtual 175, 3, [63, 3, 7, 0, 4223, 1010, 4226, 4225, 29], .null) := by decide +kernel
theorem w62_116 (hp : psum st ≤ 8) : Wp d 62 116 [l0, l1, l2, l3] (v2 :: v1 :: (.ref b) :: st) h Q = rP (h.2 b) 6 (Cp d 63 [(.ref b), v1, v2] h (fun o => cK o (fun w h2 => Wp d 62 119 [l0, l1, l2, l3] (w.toList ++ st) h2 Q) (fun E h2 => Q (.inr E, h2)))) := (W_invV (st := st) f62_116 rfl rfl (by simp only [List.length_cons]; omega) rfl rfl hp).trans (by simp only [hm62, if_true])
theorem f62_119 : fetch 62 119 = some (.ifCond .eq 13, 3, [], .null) := by decide +kernel
theorem w62_119 : Wp d 62 119 [l0, l1, l2, l3] (.int x :: st) h Q = if icond .eq x 0 = true then Wp d 62 132 [l0, l1, l2, l3] st h Q else Wp d 62 122 [l0, l1, l2, l3] st h Q := W_if f62_119 rfl
theorem f62_122 : fetch 62 122 = some (.aload_n 0, 1, [], .null) := by decide +kernel
theorem w62_122 : Wp d 62 122 [some (.ref a), l1, l2, l3] st h Q = Wp d 62 123 [some (.ref a), l1, l2, l3] (.ref a :: st) h Q := W_go f62_122 rfl
theorem f62_123 : fetch 62 123 = some (.getfield 23, 3, [6, 0, 2119, 0], .null) := by decide +kernel
theorem w62_123 : Wp d 62 123 [l0, l1, l2, l3] (.ref a :: st) h Q = gP (h.2 a) 6 0 (fun w => Wp d 62 126 [l0, l1, l2, l3] (w :: st) h Q) := W_get f62_123 rfl
theorem f62_126 : fetch 62 126 = some (.getfield 172, 3, [0, 10, 1087, 0], .null) := by decide +kernel
theorem w62_126 : Wp d 62 126 [l0, l1, l2, l3] (.ref a :: st) h Q = gP (h.2 a) 0 10 (fun w => Wp d 62 129 [l0, l1, l2, l3] (w :: st) h Q) := W_get f62_126 rfl
theorem f62_129 : fetch 62 129 = some (.goto 10, 3, [], .null) := by decide +kernel
theorem w62_129 : Wp d 62 129 [l0, l1, l2, l3] st h Q = Wp d 62 139 [l0, l1, l2, l3] st h Q := W_go f62_129 rfl
theorem f62_132 : fetch 62 132 = some (.aload_n 0, 1, [], .null) := by decide +kernel
theorem w62_132 : Wp d 62 132 [some (.ref a), l1, l2, l3] st h Q = Wp d 62 133 [some (.ref a), l1, l2, l3] (.ref a :: st) h Q := W_go f62_132 rfl
theorem f62_133 : fetch 62 133 = some (.getfield 23, 3, [6, 0, 2119, 0], .null) := by decide +kernel
theorem w62_133 : Wp d 62 133 [l0, l1, l2, l3] (.ref a :: st) h Q = gP (h.2 a) 6 0 (fun w => Wp d 62 136 [l0, l1, l2, l3] (w :: st) h Q) := W_get f62_133 rfl
theorem f62_136 : fetch 62 136 = some (.getfield 179, 3, [0, 11, 1090, 0], .null) := by decide +kernel
theorem w62_136 : Wp d 62 136 [l0, l1, l2, l3] (.ref a :: st) h Q = gP (h.2 a) 0 11 (fun w => Wp d 62 139 [l0, l1, l2, l3] (w :: st) h Q) := W_get f62_136 rfl
theorem f62_139 : fetch 62 139 = some (.iload_n 2, 1, [], .null) := by decide +kernel
theorem w62_139 : Wp d 62 139 [l0, l1, some (.int x), l3] st h Q = Wp d 62 140 [l0, l1, some (.int x), l3] (.int x :: st) h Q := W_go f62_139 rfl
theorem f62_140 : fetch 62 140 = some (.invokestatic 52, 3, [115, 2, 0, 1, 3115, 1001, 3117, 3116], .null) := by decide +kernel
theorem w62_140 (hp : psum st ≤ 8) : Wp d 62 140 [l0, l1, l2, l3] (v1 :: v0 :: st) h Q = Cp d 115 [v0, v1] h (fun o => cK o (fun w h2 => Wp d 62 143 [l0, l1, l2, l3] (w.toList ++ st) h2 Q) (fun _ _ => False)) := (W_invS (st := st) f62_140 rfl rfl (by simp only [List.length_cons]; omega) rfl rfl hp)
theorem f62_143 : fetch 62 143 = some (.iconst 1, 1, [], .null) := by decide +kernel
theorem w62_143 : Wp d 62 143 [l0, l1, l2, l3] st h Q = Wp d 62 144 [l0, l1, l2, l3] (.int (1 : Int32) :: st) h Q := W_go f62_143 rfl
theorem f62_144 : fetch 62 144 = some (.invokevirtual 169, 3, [14, 3, 3, 0, 4222, 1012, 4133, 4131, 4132], .null) := by decide +kernel
theorem w62_144 (hp : psum st ≤ 8) : Wp d 62 144 [l0, l1, l2, l3] (v2 :: v1 :: (.ref b) :: st) h Q = rP (h.2 b) 2 (Cp d 14 [(.ref b), v1, v2] h (fun o => cK o (fun w h2 => Wp d 62 147 [l0, l1, l2, l3] (w.toList ++ st) h2 Q) (fun E h2 => Q (.inr E, h2)))) := (W_invV (st := st) f62_144 rfl rfl (by simp only [List.length_cons]; omega) rfl rfl hp).trans (by simp only [hm62, if_true])
theorem f62_147 : fetch 62 147 = some (.goto 3, 3, [], .null) := by decide +kernel
theorem w62_147 : Wp d 62 147 [l0, l1, l2, l3] st h Q = Wp d 62 150 [l0, l1, l2, l3] st h Q := W_go f62_147 rfl
theorem f62_150 : fetch 62 150 = some (.return_, 1, [], .null) := by decide +kernel
theorem w62_150 : Wp d 62 150 [l0, l1, l2, l3] [] h Q = Q (.inl none, h) := W_fin f62_150 rfl
theorem hm63 : mhs 63 = [] := by decide +kernel
theorem hr63 : mret 63 = (some .boolean) := by decide +kernel
theorem f63_0 : fetch 63 0 = some (.aload_n 0, 1, [], .null) := by decide +kernel
theorem w63_0 : Wp d 63 0 [some (.ref a), l1, l2, l3, l4, l5, l6, l7] st h Q = Wp d 63 1 [some (.ref a), l1, l2, l3, l4, l5, l6, l7] (.ref a :: st) h Q := W_go f63_0 rfl
theorem f63_1 : fetch 63 1 = some (.getfield 23, 3, [6, 0, 2119, 0], .null) := by decide +kernel
theorem w63_1 : Wp d 63 1 [l0, l1, l2, l3, l4, l5, l6, l7] (.ref a :: st) h Q = gP (h.2 a) 6 0 (fun w => Wp d 63 4 [l0, l1, l2, l3, l4, l5, l6, l7] (w :: st) h Q) := W_get f63_1 rfl
theorem f63_4 : fetch 63 4 = some (.getfield 182, 3, [0, 13, 1096, 0], .null) := by decide +kernel
theorem w63_4 : Wp d 63 4 [l0, l1, l2, l3, l4, l5, l6, l7] (.ref a :: st) h Q = gP (h.2 a) 0 13 (fun w => Wp d 63 7 [l0, l1, l2, l3, l4, l5, l6, l7] (w :: st) h Q) := W_get f63_4 rfl
theorem f63_7 : fetch 63 7 = some (.iload_n 2, 1, [], .null) := by decide +kernel
theorem w63_7 : Wp d 63 7 [l0, l1, some (.int x), l3, l4, l5, l6, l7] st h Q = Wp d 63 8 [l0, l1, some (.int x), l3, l4, l5, l6, l7] (.int x :: st) h Q := W_go f63_7 rfl
theorem f63_8 : fetch 63 8 = some (.invokestatic 52, 3, [115, 2, 0, 1, 3115, 1001, 3117, 3116], .null) := by decide +kernel
theorem w63_8 (hp : psum st ≤ 8) : Wp d 63 8 [l0, l1, l2, l3, l4, l5, l6, l7] (v1 :: v0 :: st) h Q = Cp d 115 [v0, v1] h (fun o => cK o (fun w h2 => Wp d 63 11 [l0, l1, l2, l3, l4, l5, l6, l7] (w.toList ++ st) h2 Q) (fun _ _ => False)) := (W_invS (st := st) f63_8 rfl rfl (by simp only [List.length_cons]; omega) rfl rfl hp)
theorem f63_11 : fetch 63 11 = some (.istore_n 3, 1, [], .null) := by decide +kernel
theorem w63_11 : Wp d 63 11 [l0, l1, l2, l3, l4, l5, l6, l7] (.int x :: st) h Q = Wp d 63 12 [l0, l1, kl l2, some (.int x), l4, l5, l6, l7] st h Q := (W_st1 (pc' := 12) (k := 3) f63_11 rfl rfl (by simp only [List.length_cons, List.length_nil]; omega)).trans (by rw [pst1_succ]; rfl)
theorem f63_12 : fetch 63 12 = some (.aload_n 0, 1, [], .null) := by decide +kernel
theorem w63_12 : Wp d 63 12 [some (.ref a), l1, l2, l3, l4, l5, l6, l7] st h Q = Wp d 63 13 [some (.ref a), l1, l2, l3, l4, l5, l6, l7] (.ref a :: st) h Q := W_go f63_12 rfl
theorem f63_13 : fetch 63 13 = some (.getfield 23, 3, [6, 0, 2119, 0], .null) := by decide +kernel
theorem w63_13 : Wp d 63 13 [l0, l1, l2, l3, l4, l5, l6, l7] (.ref a :: st) h Q = gP (h.2 a) 6 0 (fun w => Wp d 63 16 [l0, l1, l2, l3, l4, l5, l6, l7] (w :: st) h Q) := W_get f63_13 rfl
theorem f63_16 : fetch 63 16 = some (.getfield 185, 3, [0, 12, 1093, 0], .null) := by decide +kernel
theorem w63_16 : Wp d 63 16 [l0, l1, l2, l3, l4, l5, l6, l7] (.ref a :: st) h Q = gP (h.2 a) 0 12 (fun w => Wp d 63 19 [l0, l1, l2, l3, l4, l5, l6, l7] (w :: st) h Q) := W_get f63_16 rfl
theorem f63_19 : fetch 63 19 = some (.iload_n 2, 1, [], .null) := by decide +kernel
theorem w63_19 : Wp d 63 19 [l0, l1, some (.int x), l3, l4, l5, l6, l7] st h Q = Wp d 63 20 [l0, l1, some (.int x), l3, l4, l5, l6, l7] (.int x :: st) h Q := W_go f63_19 rfl
theorem f63_20 : fetch 63 20 = some (.invokestatic 52, 3, [115, 2, 0, 1, 3115, 1001, 3117, 3116], .null) := by decide +kernel
theorem w63_20 (hp : psum st ≤ 8) : Wp d 63 20 [l0, l1, l2, l3, l4, l5, l6, l7] (v1 :: v0 :: st) h Q = Cp d 115 [v0, v1] h (fun o => cK o (fun w h2 => Wp d 63 23 [l0, l1, l2, l3, l4, l5, l6, l7] (w.toList ++ st) h2 Q) (fun _ _ => False)) := (W_invS (st := st) f63_20 rfl rfl (by simp only [List.length_cons]; omega) rfl rfl hp)
theorem f63_23 : fetch 63 23 = some (.istore 4, 2, [], .null) := by decide +kernel
theorem w63_23 : Wp d 63 23 [l0, l1, l2, l3, l4, l5, l6, l7] (.int x :: st) h Q = Wp d 63 25 [l0, l1, l2, kl l3, some (.int x), l5, l6, l7] st h Q := (W_st1 (pc' := 25) (k := 4) f63_23 rfl rfl (by simp only [List.length_cons, List.length_nil]; omega)).trans (by rw [pst1_succ]; rfl)
theorem f63_25 : fetch 63 25 = some (.iload 4, 2, [], .null) := by decide +kernel
theorem w63_25 : Wp d 63 25 [l0, l1, l2, l3, some (.int x), l5, l6, l7] st h Q = Wp d 63 27 [l0, l1, l2, l3, some (.int x), l5, l6, l7] (.int x :: st) h Q := W_go f63_25 rfl
theorem f63_27 : fetch 63 27 = some (.iload_n 3, 1, [], .null) := by decide +kernel
theorem w63_27 : Wp d 63 27 [l0, l1, l2, some (.int x), l4, l5, l6, l7] st h Q = Wp d 63 28 [l0, l1, l2, some (.int x), l4, l5, l6, l7] (.int x :: st) h Q := W_go f63_27 rfl
theorem f63_28 : fetch 63 28 = some (.if_icmp .ge 105, 3, [], .null) := by decide +kernel
theorem w63_28 : Wp d 63 28 [l0, l1, l2, l3, l4, l5, l6, l7] (.int y :: .int x :: st) h Q = if icond .ge x y = true then Wp d 63 133 [l0, l1, l2, l3, l4, l5, l6, l7] st h Q else Wp d 63 31 [l0, l1, l2, l3, l4, l5, l6, l7] st h Q := W_if f63_28 rfl
theorem f63_31 : fetch 63 31 = some (.aload_n 0, 1, [], .null) := by decide +kernel
theorem w63_31 : Wp d 63 31 [some (.ref a), l1, l2, l3, l4, l5, l6, l7] st h Q = Wp d 63 32 [some (.ref a), l1, l2, l3, l4, l5, l6, l7] (.ref a :: st) h Q := W_go f63_31 rfl
theorem f63_32 : fetch 63 32 = some (.aload_n 1, 1, [], .null) := by decide +kernel
theorem w63_32 : Wp d 63 32 [l0, some (.ref a), l2, l3, l4, l5, l6, l7] st h Q = Wp d 63 33 [l0, some (.ref a), l2, l3, l4, l5, l6, l7] (.ref a :: st) h Q := W_go f63_32 rfl
theorem f63_33 : fetch 63 33 = some (.aload_n 0, 1, [], .null) := by decide +kernel
theorem w63_33 : Wp d 63 33 [some (.ref a), l1, l2, l3, l4, l5, l6, l7] st h Q = Wp d 63 34 [some (.ref a), l1, l2, l3, l4, l5, l6, l7] (.ref a :: st) h Q := W_go f63_33 rfl
theorem f63_34 : fetch 63 34 = some (.getfield 23, 3, [6, 0, 2119, 0], .null) := by decide +kernel
theorem w63_34 : Wp d 63 34 [l0, l1, l2, l3, l4, l5, l6, l7] (.ref a :: st) h Q = gP (h.2 a) 6 0 (fun w => Wp d 63 37 [l0, l1, l2, l3, l4, l5, l6, l7] (w :: st) h Q) := W_get f63_34 rfl
theorem f63_37 : fetch 63 37 = some (.getfield 188, 3, [0, 14, 1099, 0], .null) := by decide +kernel
theorem w63_37 : Wp d 63 37 [l0, l1, l2, l3, l4, l5, l6, l7] (.ref a :: st) h Q = gP (h.2 a) 0 14 (fun w => Wp d 63 40 [l0, l1, l2, l3, l4, l5, l6, l7] (w :: st) h Q) := W_get f63_37 rfl
theorem f63_40 : fetch 63 40 = some (.iload 4, 2, [], .null) := by decide +kernel
theorem w63_40 : Wp d 63 40 [l0, l1, l2, l3, some (.int x), l5, l6, l7] st h Q = Wp d 63 42 [l0, l1, l2, l3, some (.int x), l5, l6, l7] (.int x :: st) h Q := W_go f63_40 rfl
theorem f63_42 : fetch 63 42 = some (.invokestatic 52, 3, [115, 2, 0, 1, 3115, 1001, 3117, 3116], .null) := by decide +kernel
theorem w63_42 (hp : psum st ≤ 8) : Wp d 63 42 [l0, l1, l2, l3, l4, l5, l6, l7] (v1 :: v0 :: st) h Q = Cp d 115 [v0, v1] h (fun o => cK o (fun w h2 => Wp d 63 45 [l0, l1, l2, l3, l4, l5, l6, l7] (w.toList ++ st) h2 Q) (fun _ _ => False)) := (W_invS (st := st) f63_42 rfl rfl (by simp only [List.length_cons]; omega) rfl rfl hp)
theorem f63_45 : fetch 63 45 = some (.invokevirtual 152, 3, [66, 3, 7, 0, 4203, 1010, 4206, 4205, 26], .null) := by decide +kernel
theorem w63_45 (hp : psum st ≤ 8) : Wp d 63 45 [l0, l1, l2, l3, l4, l5, l6, l7] (v2 :: v1 :: (.ref b) :: st) h Q = rP (h.2 b) 6 (Cp d 66 [(.ref b), v1, v2] h (fun o => cK o (fun w h2 => Wp d 63 48 [l0, l1, l2, l3, l4, l5, l6, l7] (w.toList ++ st) h2 Q) (fun E h2 => Q (.inr E, h2)))) := (W_invV (st := st) f63_45 rfl rfl (by simp only [List.length_cons]; omega) rfl rfl hp).trans (by simp only [hm63, if_true])
theorem f63_48 : fetch 63 48 = some (.istore 5, 2, [], .null) := by decide +kernel
theorem w63_48 : Wp d 63 48 [l0, l1, l2, l3, l4, l5, l6, l7] (.int x :: st) h Q = Wp d 63 50 [l0, l1, l2, l3, kl l4, some (.int x), l6, l7] st h Q := (W_st1 (pc' := 50) (k := 5) f63_48 rfl rfl (by simp only [List.length_cons, List.length_nil]; omega)).trans (by rw [pst1_succ]; rfl)
theorem f63_50 : fetch 63 50 = some (.aload_n 0, 1, [], .null) := by decide +kernel
theorem w63_50 : Wp d 63 50 [some (.ref a), l1, l2, l3, l4, l5, l6, l7] st h Q = Wp d 63 51 [some (.ref a), l1, l2, l3, l4, l5, l6, l7] (.ref a :: st) h Q := W_go f63_50 rfl
theorem f63_51 : fetch 63 51 = some (.aload_n 1, 1, [], .null) := by decide +kernel
theorem w63_51 : Wp d 63 51 [l0, some (.ref a), l2, l3, l4, l5, l6, l7] st h Q = Wp d 63 52 [l0, some (.ref a), l2, l3, l4, l5, l6, l7] (.ref a :: st) h Q := W_go f63_51 rfl
theorem f63_52 : fetch 63 52 = some (.aload_n 0, 1, [], .null) := by decide +kernel
theorem w63_52 : Wp d 63 52 [some (.ref a), l1, l2, l3, l4, l5, l6, l7] st h Q = Wp d 63 53 [some (.ref a), l1, l2, l3, l4, l5, l6, l7] (.ref a :: st) h Q := W_go f63_52 rfl
theorem f63_53 : fetch 63 53 = some (.getfield 23, 3, [6, 0, 2119, 0], .null) := by decide +kernel
theorem w63_53 : Wp d 63 53 [l0, l1, l2, l3, l4, l5, l6, l7] (.ref a :: st) h Q = gP (h.2 a) 6 0 (fun w => Wp d 63 56 [l0, l1, l2, l3, l4, l5, l6, l7] (w :: st) h Q) := W_get f63_53 rfl
theorem f63_56 : fetch 63 56 = some (.getfield 191, 3, [0, 16, 1105, 0], .null) := by decide +kernel
theorem w63_56 : Wp d 63 56 [l0, l1, l2, l3, l4, l5, l6, l7] (.ref a :: st) h Q = gP (h.2 a) 0 16 (fun w => Wp d 63 59 [l0, l1, l2, l3, l4, l5, l6, l7] (w :: st) h Q) := W_get f63_56 rfl
theorem f63_59 : fetch 63 59 = some (.iload 4, 2, [], .null) := by decide +kernel
theorem w63_59 : Wp d 63 59 [l0, l1, l2, l3, some (.int x), l5, l6, l7] st h Q = Wp d 63 61 [l0, l1, l2, l3, some (.int x), l5, l6, l7] (.int x :: st) h Q := W_go f63_59 rfl
theorem f63_61 : fetch 63 61 = some (.invokestatic 52, 3, [115, 2, 0, 1, 3115, 1001, 3117, 3116], .null) := by decide +kernel
theorem w63_61 (hp : psum st ≤ 8) : Wp d 63 61 [l0, l1, l2, l3, l4, l5, l6, l7] (v1 :: v0 :: st) h Q = Cp d 115 [v0, v1] h (fun o => cK o (fun w h2 => Wp d 63 64 [l0, l1, l2, l3, l4, l5, l6, l7] (w.toList ++ st) h2 Q) (fun _ _ => False)) := (W_invS (st := st) f63_61 rfl rfl (by simp only [List.length_cons]; omega) rfl rfl hp)
theorem f63_64 : fetch 63 64 = some (.invokevirtual 152, 3, [66, 3, 7, 0, 4203, 1010, 4206, 4205, 26], .null) := by decide +kernel
theorem w63_64 (hp : psum st ≤ 8) : Wp d 63 64 [l0, l1, l2, l3, l4, l5, l6, l7] (v2 :: v1 :: (.ref b) :: st) h Q = rP (h.2 b) 6 (Cp d 66 [(.ref b), v1, v2] h (fun o => cK o (fun w h2 => Wp d 63 67 [l0, l1, l2, l3, l4, l5, l6, l7] (w.toList ++ st) h2 Q) (fun E h2 => Q (.inr E, h2)))) := (W_invV (st := st) f63_64 rfl rfl (by simp only [List.length_cons]; omega) rfl rfl hp).trans (by simp only [hm63, if_true])
theorem f63_67 : fetch 63 67 = some (.istore 6, 2, [], .null) := by decide +kernel
theorem w63_67 : Wp d 63 67 [l0, l1, l2, l3, l4, l5, l6, l7] (.int x :: st) h Q = Wp d 63 69 [l0, l1, l2, l3, l4, kl l5, some (.int x), l7] st h Q := (W_st1 (pc' := 69) (k := 6) f63_67 rfl rfl (by simp only [List.length_cons, List.length_nil]; omega)).trans (by rw [pst1_succ]; rfl)
theorem f63_69 : fetch 63 69 = some (.aload_n 0, 1, [], .null) := by decide +kernel
theorem w63_69 : Wp d 63 69 [some (.ref a), l1, l2, l3, l4, l5, l6, l7] st h Q = Wp d 63 70 [some (.ref a), l1, l2, l3, l4, l5, l6, l7] (.ref a :: st) h Q := W_go f63_69 rfl
theorem f63_70 : fetch 63 70 = some (.getfield 23, 3, [6, 0, 2119, 0], .null) := by decide +kernel
theorem w63_70 : Wp d 63 70 [l0, l1, l2, l3, l4, l5, l6, l7] (.ref a :: st) h Q = gP (h.2 a) 6 0 (fun w => Wp d 63 73 [l0, l1, l2, l3, l4, l5, l6, l7] (w :: st) h Q) := W_get f63_70 rfl
theorem f63_73 : fetch 63 73 = some (.getfield 194, 3, [0, 15, 1102, 0], .null) := by decide +kernel
theorem w63_73 : Wp d 63 73 [l0, l1, l2, l3, l4, l5, l6, l7] (.ref a :: st) h Q = gP (h.2 a) 0 15 (fun w => Wp d 63 76 [l0, l1, l2, l3, l4, l5, l6, l7] (w :: st) h Q) := W_get f63_73 rfl
theorem f63_76 : fetch 63 76 = some (.iload 4, 2, [], .null) := by decide +kernel
theorem w63_76 : Wp d 63 76 [l0, l1, l2, l3, some (.int x), l5, l6, l7] st h Q = Wp d 63 78 [l0, l1, l2, l3, some (.int x), l5, l6, l7] (.int x :: st) h Q := W_go f63_76 rfl
theorem f63_78 : fetch 63 78 = some (.invokestatic 52, 3, [115, 2, 0, 1, 3115, 1001, 3117, 3116], .null) := by decide +kernel
theorem w63_78 (hp : psum st ≤ 8) : Wp d 63 78 [l0, l1, l2, l3, l4, l5, l6, l7] (v1 :: v0 :: st) h Q = Cp d 115 [v0, v1] h (fun o => cK o (fun w h2 => Wp d 63 81 [l0, l1, l2, l3, l4, l5, l6, l7] (w.toList ++ st) h2 Q) (fun _ _ => False)) := (W_invS (st := st) f63_78 rfl rfl (by simp only [List.length_cons]; omega) rfl rfl hp)
theorem f63_81 : fetch 63 81 = some (.istore 7, 2, [], .null) := by decide +kernel
theorem w63_81 : Wp d 63 81 [l0, l1, l2, l3, l4, l5, l6, l7] (.int x :: st) h Q = Wp d 63 83 [l0, l1, l2, l3, l4, l5, kl l6, some (.int x)] st h Q := (W_st1 (pc' := 83) (k := 7) f63_81 rfl rfl (by simp only [List.length_cons, List.length_nil]; omega)).trans (by rw [pst1_succ]; rfl)
theorem f63_83 : fetch 63 83 = some (.iload 7, 2, [], .null) := by decide +kernel
theorem w63_83 : Wp d 63 83 [l0, l1, l2, l3, l4, l5, l6, some (.int x)] st h Q = Wp d 63 85 [l0, l1, l2, l3, l4, l5, l6, some (.int x)] (.int x :: st) h Q := W_go f63_83 rfl
theorem f63_85 : fetch 63 85 = some (.bipush 28, 2, [], .null) := by decide +kernel
theorem w63_85 : Wp d 63 85 [l0, l1, l2, l3, l4, l5, l6, l7] st h Q = Wp d 63 87 [l0, l1, l2, l3, l4, l5, l6, l7] (.int (28 : Int32) :: st) h Q := W_go f63_85 rfl
theorem f63_87 : fetch 63 87 = some (.if_icmp .ne 10, 3, [], .null) := by decide +kernel
theorem w63_87 : Wp d 63 87 [l0, l1, l2, l3, l4, l5, l6, l7] (.int y :: .int x :: st) h Q = if icond .ne x y = true then Wp d 63 97 [l0, l1, l2, l3, l4, l5, l6, l7] st h Q else Wp d 63 90 [l0, l1, l2, l3, l4, l5, l6, l7] st h Q := W_if f63_87 rfl
theorem f63_90 : fetch 63 90 = some (.iload 5, 2, [], .null) := by decide +kernel
theorem w63_90 : Wp d 63 90 [l0, l1, l2, l3, l4, some (.int x), l6, l7] st h Q = Wp d 63 92 [l0, l1, l2, l3, l4, some (.int x), l6, l7] (.int x :: st) h Q := W_go f63_90 rfl
theorem f63_92 : fetch 63 92 = some (.iload 6, 2, [], .null) := by decide +kernel
theorem w63_92 : Wp d 63 92 [l0, l1, l2, l3, l4, l5, some (.int x), l7] st h Q = Wp d 63 94 [l0, l1, l2, l3, l4, l5, some (.int x), l7] (.int x :: st) h Q := W_go f63_92 rfl
theorem f63_94 : fetch 63 94 = some (.if_icmp .ge 31, 3, [], .null) := by decide +kernel
theorem w63_94 : Wp d 63 94 [l0, l1, l2, l3, l4, l5, l6, l7] (.int y :: .int x :: st) h Q = if icond .ge x y = true then Wp d 63 125 [l0, l1, l2, l3, l4, l5, l6, l7] st h Q else Wp d 63 97 [l0, l1, l2, l3, l4, l5, l6, l7] st h Q := W_if f63_94 rfl
theorem f63_97 : fetch 63 97 = some (.iload 7, 2, [], .null) := by decide +kernel
theorem w63_97 : Wp d 63 97 [l0, l1, l2, l3, l4, l5, l6, some (.int x)] st h Q = Wp d 63 99 [l0, l1, l2, l3, l4, l5, l6, some (.int x)] (.int x :: st) h Q := W_go f63_97 rfl
theorem f63_99 : fetch 63 99 = some (.bipush 29, 2, [], .null) := by decide +kernel
theorem w63_99 : Wp d 63 99 [l0, l1, l2, l3, l4, l5, l6, l7] st h Q = Wp d 63 101 [l0, l1, l2, l3, l4, l5, l6, l7] (.int (29 : Int32) :: st) h Q := W_go f63_99 rfl
theorem f63_101 : fetch 63 101 = some (.if_icmp .ne 10, 3, [], .null) := by decide +kernel
theorem w63_101 : Wp d 63 101 [l0, l1, l2, l3, l4, l5, l6, l7] (.int y :: .int x :: st) h Q = if icond .ne x y = true then Wp d 63 111 [l0, l1, l2, l3, l4, l5, l6, l7] st h Q else Wp d 63 104 [l0, l1, l2, l3, l4, l5, l6, l7] st h Q := W_if f63_101 rfl
theorem f63_104 : fetch 63 104 = some (.iload 5, 2, [], .null) := by decide +kernel
theorem w63_104 : Wp d 63 104 [l0, l1, l2, l3, l4, some (.int x), l6, l7] st h Q = Wp d 63 106 [l0, l1, l2, l3, l4, some (.int x), l6, l7] (.int x :: st) h Q := W_go f63_104 rfl
theorem f63_106 : fetch 63 106 = some (.iload 6, 2, [], .null) := by decide +kernel
theorem w63_106 : Wp d 63 106 [l0, l1, l2, l3, l4, l5, some (.int x), l7] st h Q = Wp d 63 108 [l0, l1, l2, l3, l4, l5, some (.int x), l7] (.int x :: st) h Q := W_go f63_106 rfl
theorem f63_108 : fetch 63 108 = some (.if_icmp .le 17, 3, [], .null) := by decide +kernel
theorem w63_108 : Wp d 63 108 [l0, l1, l2, l3, l4, l5, l6, l7] (.int y :: .int x :: st) h Q = if icond .le x y = true then Wp d 63 125 [l0, l1, l2, l3, l4, l5, l6, l7] st h Q else Wp d 63 111 [l0, l1, l2, l3, l4, l5, l6, l7] st h Q := W_if f63_108 rfl
theorem f63_111 : fetch 63 111 = some (.iload 7, 2, [], .null) := by decide +kernel
theorem w63_111 : Wp d 63 111 [l0, l1, l2, l3, l4, l5, l6, some (.int x)] st h Q = Wp d 63 113 [l0, l1, l2, l3, l4, l5, l6, some (.int x)] (.int x :: st) h Q := W_go f63_111 rfl
theorem f63_113 : fetch 63 113 = some (.bipush 30, 2, [], .null) := by decide +kernel
theorem w63_113 : Wp d 63 113 [l0, l1, l2, l3, l4, l5, l6, l7] st h Q = Wp d 63 115 [l0, l1, l2, l3, l4, l5, l6, l7] (.int (30 : Int32) :: st) h Q := W_go f63_113 rfl
theorem f63_115 : fetch 63 115 = some (.if_icmp .ne 12, 3, [], .null) := by decide +kernel
theorem w63_115 : Wp d 63 115 [l0, l1, l2, l3, l4, l5, l6, l7] (.int y :: .int x :: st) h Q = if icond .ne x y = true then Wp d 63 127 [l0, l1, l2, l3, l4, l5, l6, l7] st h Q else Wp d 63 118 [l0, l1, l2, l3, l4, l5, l6, l7] st h Q := W_if f63_115 rfl
theorem f63_118 : fetch 63 118 = some (.iload 5, 2, [], .null) := by decide +kernel
theorem w63_118 : Wp d 63 118 [l0, l1, l2, l3, l4, some (.int x), l6, l7] st h Q = Wp d 63 120 [l0, l1, l2, l3, l4, some (.int x), l6, l7] (.int x :: st) h Q := W_go f63_118 rfl
theorem f63_120 : fetch 63 120 = some (.iload 6, 2, [], .null) := by decide +kernel
theorem w63_120 : Wp d 63 120 [l0, l1, l2, l3, l4, l5, some (.int x), l7] st h Q = Wp d 63 122 [l0, l1, l2, l3, l4, l5, some (.int x), l7] (.int x :: st) h Q := W_go f63_120 rfl
theorem f63_122 : fetch 63 122 = some (.if_icmp .eq 5, 3, [], .null) := by decide +kernel
theorem w63_122 : Wp d 63 122 [l0, l1, l2, l3, l4, l5, l6, l7] (.int y :: .int x :: st) h Q = if icond .eq x y = true then Wp d 63 127 [l0, l1, l2, l3, l4, l5, l6, l7] st h Q else Wp d 63 125 [l0, l1, l2, l3, l4, l5, l6, l7] st h Q := W_if f63_122 rfl
theorem f63_125 : fetch 63 125 = some (.iconst 0, 1, [], .null) := by decide +kernel
theorem w63_125 : Wp d 63 125 [l0, l1, l2, l3, l4, l5, l6, l7] st h Q = Wp d 63 126 [l0, l1, l2, l3, l4, l5, l6, l7] (.int (0 : Int32) :: st) h Q := W_go f63_125 rfl
theorem f63_126 : fetch 63 126 = some (.ireturn, 1, [], .null) := by decide +kernel
theorem w63_126 : Wp d 63 126 [l0, l1, l2, l3, l4, l5, l6, l7] [.int x] h Q = (if narrow .boolean (.int x) = .int x then Q (.inl (some (.int x)), h) else False) := W_zret f63_126 hr63
theorem f63_127 : fetch 63 127 = some (.iinc 4 1, 3, [], .null) := by decide +kernel
theorem w63_127 : Wp d 63 127 [l0, l1, l2, l3, some (.int x), l5, l6, l7] st h Q = Wp d 63 130 [l0, l1, l2, kl l3, some (.int (x + (1 : Int32))), l5, l6, l7] st h Q := (W_iinc (y := (1 : Int32)) f63_127 rfl (by simp only [List.length_cons, List.length_nil]; omega) (by decide)).trans (by rw [pst1_succ]; rfl)
theorem f63_130 : fetch 63 130 = some (.goto (-105), 3, [], .null) := by decide +kernel
theorem w63_130 : Wp d 63 130 [l0, l1, l2, l3, l4, l5, l6, l7] st h Q = Wp d 63 25 [l0, l1, l2, l3, l4, l5, l6, l7] st h Q := W_go f63_130 rfl
theorem f63_133 : fetch 63 133 = some (.iconst 1, 1, [], .null) := by decide +kernel
theorem w63_133 : Wp d 63 133 [l0, l1, l2, l3, l4, l5, l6, l7] st h Q = Wp d 63 134 [l0, l1, l2, l3, l4, l5, l6, l7] (.int (1 : Int32) :: st) h Q := W_go f63_133 rfl
theorem f63_134 : fetch 63 134 = some (.ireturn, 1, [], .null) := by decide +kernel
theorem w63_134 : Wp d 63 134 [l0, l1, l2, l3, l4, l5, l6, l7] [.int x] h Q = (if narrow .boolean (.int x) = .int x then Q (.inl (some (.int x)), h) else False) := W_zret f63_134 hr63
theorem hm64 : mhs 64 = [] := by decide +kernel
theorem f64_0 : fetch 64 0 = some (.aload_n 1, 1, [], .null) := by decide +kernel
theorem w64_0 : Wp d 64 0 [l0, some (.ref a), l2, l3, l4, l5] st h Q = Wp d 64 1 [l0, some (.ref a), l2, l3, l4, l5] (.ref a :: st) h Q := W_go f64_0 rfl
theorem f64_1 : fetch 64 1 = some (.getfield 119, 3, [2, 4, 2083, 0], .null) := by decide +kernel
theorem w64_1 : Wp d 64 1 [l0, l1, l2, l3, l4, l5] (.ref a :: st) h Q = gP (h.2 a) 2 4 (fun w => Wp d 64 4 [l0, l1, l2, l3, l4, l5] (w :: st) h Q) := W_get f64_1 rfl
theorem f64_4 : fetch 64 4 = some (.istore_n 2, 1, [], .null) := by decide +kernel
theorem w64_4 : Wp d 64 4 [l0, l1, l2, l3, l4, l5] (.int x :: st) h Q = Wp d 64 5 [l0, kl l1, some (.int x), l3, l4, l5] st h Q := (W_st1 (pc' := 5) (k := 2) f64_4 rfl rfl (by simp only [List.length_cons, List.length_nil]; omega)).trans (by rw [pst1_succ]; rfl)
theorem f64_5 : fetch 64 5 = some (.aload_n 1, 1, [], .null) := by decide +kernel
theorem w64_5 : Wp d 64 5 [l0, some (.ref a), l2, l3, l4, l5] st h Q = Wp d 64 6 [l0, some (.ref a), l2, l3, l4, l5] (.ref a :: st) h Q := W_go f64_5 rfl
theorem f64_6 : fetch 64 6 = some (.iconst (-1), 1, [], .null) := by decide +kernel
theorem w64_6 : Wp d 64 6 [l0, l1, l2, l3, l4, l5] st h Q = Wp d 64 7 [l0, l1, l2, l3, l4, l5] (.int (-1 : Int32) :: st) h Q := W_go f64_6 rfl
theorem f64_7 : fetch 64 7 = some (.putfield 119, 3, [2, 4, 2083, 0], .null) := by decide +kernel
theorem w64_7 : Wp d 64 7 [l0, l1, l2, l3, l4, l5] (v :: .ref a :: st) h Q = pP (h.2 a) 2 4 (ftOf 2 4) v a (fun c => Wp d 64 10 [l0, l1, l2, l3, l4, l5] st (hset h a c) Q) := W_put f64_7 (by rfl)
theorem f64_10 : fetch 64 10 = some (.aload_n 0, 1, [], .null) := by decide +kernel
theorem w64_10 : Wp d 64 10 [some (.ref a), l1, l2, l3, l4, l5] st h Q = Wp d 64 11 [some (.ref a), l1, l2, l3, l4, l5] (.ref a :: st) h Q := W_go f64_10 rfl
theorem f64_11 : fetch 64 11 = some (.getfield 23, 3, [6, 0, 2119, 0], .null) := by decide +kernel
theorem w64_11 : Wp d 64 11 [l0, l1, l2, l3, l4, l5] (.ref a :: st) h Q = gP (h.2 a) 6 0 (fun w => Wp d 64 14 [l0, l1, l2, l3, l4, l5] (w :: st) h Q) := W_get f64_11 rfl
theorem f64_14 : fetch 64 14 = some (.getfield 149, 3, [0, 8, 1081, 0], .null) := by decide +kernel
theorem w64_14 : Wp d 64 14 [l0, l1, l2, l3, l4, l5] (.ref a :: st) h Q = gP (h.2 a) 0 8 (fun w => Wp d 64 17 [l0, l1, l2, l3, l4, l5] (w :: st) h Q) := W_get f64_14 rfl
theorem f64_17 : fetch 64 17 = some (.iload_n 2, 1, [], .null) := by decide +kernel
theorem w64_17 : Wp d 64 17 [l0, l1, some (.int x), l3, l4, l5] st h Q = Wp d 64 18 [l0, l1, some (.int x), l3, l4, l5] (.int x :: st) h Q := W_go f64_17 rfl
theorem f64_18 : fetch 64 18 = some (.invokestatic 52, 3, [115, 2, 0, 1, 3115, 1001, 3117, 3116], .null) := by decide +kernel
theorem w64_18 (hp : psum st ≤ 8) : Wp d 64 18 [l0, l1, l2, l3, l4, l5] (v1 :: v0 :: st) h Q = Cp d 115 [v0, v1] h (fun o => cK o (fun w h2 => Wp d 64 21 [l0, l1, l2, l3, l4, l5] (w.toList ++ st) h2 Q) (fun _ _ => False)) := (W_invS (st := st) f64_18 rfl rfl (by simp only [List.length_cons]; omega) rfl rfl hp)
theorem f64_21 : fetch 64 21 = some (.istore_n 3, 1, [], .null) := by decide +kernel
theorem w64_21 : Wp d 64 21 [l0, l1, l2, l3, l4, l5] (.int x :: st) h Q = Wp d 64 22 [l0, l1, kl l2, some (.int x), l4, l5] st h Q := (W_st1 (pc' := 22) (k := 3) f64_21 rfl rfl (by simp only [List.length_cons, List.length_nil]; omega)).trans (by rw [pst1_succ]; rfl)
theorem f64_22 : fetch 64 22 = some (.aload_n 0, 1, [], .null) := by decide +kernel
theorem w64_22 : Wp d 64 22 [some (.ref a), l1, l2, l3, l4, l5] st h Q = Wp d 64 23 [some (.ref a), l1, l2, l3, l4, l5] (.ref a :: st) h Q := W_go f64_22 rfl
theorem f64_23 : fetch 64 23 = some (.getfield 23, 3, [6, 0, 2119, 0], .null) := by decide +kernel
theorem w64_23 : Wp d 64 23 [l0, l1, l2, l3, l4, l5] (.ref a :: st) h Q = gP (h.2 a) 6 0 (fun w => Wp d 64 26 [l0, l1, l2, l3, l4, l5] (w :: st) h Q) := W_get f64_23 rfl
theorem f64_26 : fetch 64 26 = some (.getfield 146, 3, [0, 7, 1078, 0], .null) := by decide +kernel
theorem w64_26 : Wp d 64 26 [l0, l1, l2, l3, l4, l5] (.ref a :: st) h Q = gP (h.2 a) 0 7 (fun w => Wp d 64 29 [l0, l1, l2, l3, l4, l5] (w :: st) h Q) := W_get f64_26 rfl
theorem f64_29 : fetch 64 29 = some (.iload_n 2, 1, [], .null) := by decide +kernel
theorem w64_29 : Wp d 64 29 [l0, l1, some (.int x), l3, l4, l5] st h Q = Wp d 64 30 [l0, l1, some (.int x), l3, l4, l5] (.int x :: st) h Q := W_go f64_29 rfl
theorem f64_30 : fetch 64 30 = some (.invokestatic 52, 3, [115, 2, 0, 1, 3115, 1001, 3117, 3116], .null) := by decide +kernel
theorem w64_30 (hp : psum st ≤ 8) : Wp d 64 30 [l0, l1, l2, l3, l4, l5] (v1 :: v0 :: st) h Q = Cp d 115 [v0, v1] h (fun o => cK o (fun w h2 => Wp d 64 33 [l0, l1, l2, l3, l4, l5] (w.toList ++ st) h2 Q) (fun _ _ => False)) := (W_invS (st := st) f64_30 rfl rfl (by simp only [List.length_cons]; omega) rfl rfl hp)
theorem f64_33 : fetch 64 33 = some (.istore 4, 2, [], .null) := by decide +kernel
theorem w64_33 : Wp d 64 33 [l0, l1, l2, l3, l4, l5] (.int x :: st) h Q = Wp d 64 35 [l0, l1, l2, kl l3, some (.int x), l5] st h Q := (W_st1 (pc' := 35) (k := 4) f64_33 rfl rfl (by simp only [List.length_cons, List.length_nil]; omega)).trans (by rw [pst1_succ]; rfl)
theorem f64_35 : fetch 64 35 = some (.iload 4, 2, [], .null) := by decide +kernel
theorem w64_35 : Wp d 64 35 [l0, l1, l2, l3, some (.int x), l5] st h Q = Wp d 64 37 [l0, l1, l2, l3, some (.int x), l5] (.int x :: st) h Q := W_go f64_35 rfl
theorem f64_37 : fetch 64 37 = some (.bipush 10, 2, [], .null) := by decide +kernel
theorem w64_37 : Wp d 64 37 [l0, l1, l2, l3, l4, l5] st h Q = Wp d 64 39 [l0, l1, l2, l3, l4, l5] (.int (10 : Int32) :: st) h Q := W_go f64_37 rfl
theorem f64_39 : fetch 64 39 = some (.if_icmp .ne 19, 3, [], .null) := by decide +kernel
theorem w64_39 : Wp d 64 39 [l0, l1, l2, l3, l4, l5] (.int y :: .int x :: st) h Q = if icond .ne x y = true then Wp d 64 58 [l0, l1, l2, l3, l4, l5] st h Q else Wp d 64 42 [l0, l1, l2, l3, l4, l5] st h Q := W_if f64_39 rfl
theorem f64_42 : fetch 64 42 = some (.aload_n 1, 1, [], .null) := by decide +kernel
theorem w64_42 : Wp d 64 42 [l0, some (.ref a), l2, l3, l4, l5] st h Q = Wp d 64 43 [l0, some (.ref a), l2, l3, l4, l5] (.ref a :: st) h Q := W_go f64_42 rfl
theorem f64_43 : fetch 64 43 = some (.aload_n 0, 1, [], .null) := by decide +kernel
theorem w64_43 : Wp d 64 43 [some (.ref a), l1, l2, l3, l4, l5] st h Q = Wp d 64 44 [some (.ref a), l1, l2, l3, l4, l5] (.ref a :: st) h Q := W_go f64_43 rfl
theorem f64_44 : fetch 64 44 = some (.getfield 23, 3, [6, 0, 2119, 0], .null) := by decide +kernel
theorem w64_44 : Wp d 64 44 [l0, l1, l2, l3, l4, l5] (.ref a :: st) h Q = gP (h.2 a) 6 0 (fun w => Wp d 64 47 [l0, l1, l2, l3, l4, l5] (w :: st) h Q) := W_get f64_44 rfl
theorem f64_47 : fetch 64 47 = some (.getfield 48, 3, [0, 4, 1067, 0], .null) := by decide +kernel
theorem w64_47 : Wp d 64 47 [l0, l1, l2, l3, l4, l5] (.ref a :: st) h Q = gP (h.2 a) 0 4 (fun w => Wp d 64 50 [l0, l1, l2, l3, l4, l5] (w :: st) h Q) := W_get f64_47 rfl
theorem f64_50 : fetch 64 50 = some (.iload_n 3, 1, [], .null) := by decide +kernel
theorem w64_50 : Wp d 64 50 [l0, l1, l2, some (.int x), l4, l5] st h Q = Wp d 64 51 [l0, l1, l2, some (.int x), l4, l5] (.int x :: st) h Q := W_go f64_50 rfl
theorem f64_51 : fetch 64 51 = some (.invokestatic 52, 3, [115, 2, 0, 1, 3115, 1001, 3117, 3116], .null) := by decide +kernel
theorem w64_51 (hp : psum st ≤ 8) : Wp d 64 51 [l0, l1, l2, l3, l4, l5] (v1 :: v0 :: st) h Q = Cp d 115 [v0, v1] h (fun o => cK o (fun w h2 => Wp d 64 54 [l0, l1, l2, l3, l4, l5] (w.toList ++ st) h2 Q) (fun _ _ => False)) := (W_invS (st := st) f64_51 rfl rfl (by simp only [List.length_cons]; omega) rfl rfl hp)
theorem f64_54 : fetch 64 54 = some (.putfield 155, 3, [2, 2, 2077, 0], .null) := by decide +kernel
theorem w64_54 : Wp d 64 54 [l0, l1, l2, l3, l4, l5] (v :: .ref a :: st) h Q = pP (h.2 a) 2 2 (ftOf 2 2) v a (fun c => Wp d 64 57 [l0, l1, l2, l3, l4, l5] st (hset h a c) Q) := W_put f64_54 (by rfl)
theorem f64_57 : fetch 64 57 = some (.return_, 1, [], .null) := by decide +kernel
theorem w64_57 : Wp d 64 57 [l0, l1, l2, l3, l4, l5] [] h Q = Q (.inl none, h) := W_fin f64_57 rfl
theorem f64_58 : fetch 64 58 = some (.aload_n 0, 1, [], .null) := by decide +kernel
theorem w64_58 : Wp d 64 58 [some (.ref a), l1, l2, l3, l4, l5] st h Q = Wp d 64 59 [some (.ref a), l1, l2, l3, l4, l5] (.ref a :: st) h Q := W_go f64_58 rfl
theorem f64_59 : fetch 64 59 = some (.aload_n 1, 1, [], .null) := by decide +kernel
theorem w64_59 : Wp d 64 59 [l0, some (.ref a), l2, l3, l4, l5] st h Q = Wp d 64 60 [l0, some (.ref a), l2, l3, l4, l5] (.ref a :: st) h Q := W_go f64_59 rfl
theorem f64_60 : fetch 64 60 = some (.getfield 155, 3, [2, 2, 2077, 0], .null) := by decide +kernel
theorem w64_60 : Wp d 64 60 [l0, l1, l2, l3, l4, l5] (.ref a :: st) h Q = gP (h.2 a) 2 2 (fun w => Wp d 64 63 [l0, l1, l2, l3, l4, l5] (w :: st) h Q) := W_get f64_60 rfl
theorem f64_63 : fetch 64 63 = some (.invokevirtual 197, 3, [67, 2, 7, 0, 4207, 1010, 4210, 4209, 27], .null) := by decide +kernel
theorem w64_63 (hp : psum st ≤ 8) : Wp d 64 63 [l0, l1, l2, l3, l4, l5] (v1 :: (.ref b) :: st) h Q = rP (h.2 b) 6 (Cp d 67 [(.ref b), v1] h (fun o => cK o (fun w h2 => Wp d 64 66 [l0, l1, l2, l3, l4, l5] (w.toList ++ st) h2 Q) (fun E h2 => Q (.inr E, h2)))) := (W_invV (st := st) f64_63 rfl rfl (by simp only [List.length_cons]; omega) rfl rfl hp).trans (by simp only [hm64, if_true])
theorem f64_66 : fetch 64 66 = some (.astore 5, 2, [], .null) := by decide +kernel
theorem w64_66 : Wp d 64 66 [l0, l1, l2, l3, l4, l5] (.ref a :: st) h Q = Wp d 64 68 [l0, l1, l2, l3, kl l4, some (.ref a)] st h Q := (W_st1 (pc' := 68) (k := 5) f64_66 rfl rfl (by simp only [List.length_cons, List.length_nil]; omega)).trans (by rw [pst1_succ]; rfl)
theorem f64_68 : fetch 64 68 = some (.aload 5, 2, [], .null) := by decide +kernel
theorem w64_68 : Wp d 64 68 [l0, l1, l2, l3, l4, some (.ref a)] st h Q = Wp d 64 70 [l0, l1, l2, l3, l4, some (.ref a)] (.ref a :: st) h Q := W_go f64_68 rfl
theorem f64_70 : fetch 64 70 = some (.ifnonnull 4, 3, [], .null) := by decide +kernel
theorem w64_70n : Wp d 64 70 [l0, l1, l2, l3, l4, l5] (.null :: st) h Q = Wp d 64 73 [l0, l1, l2, l3, l4, l5] st h Q := W_go f64_70 rfl
theorem w64_70 (ha : a ≠ 201) : Wp d 64 70 [l0, l1, l2, l3, l4, l5] (.ref a :: st) h Q = Wp d 64 74 [l0, l1, l2, l3, l4, l5] st h Q := W_go f64_70 (by simp only [pstep, if_neg ha]; rfl)
theorem f64_73 : fetch 64 73 = some (.return_, 1, [], .null) := by decide +kernel
theorem w64_73 : Wp d 64 73 [l0, l1, l2, l3, l4, l5] [] h Q = Q (.inl none, h) := W_fin f64_73 rfl
theorem f64_74 : fetch 64 74 = some (.iload 4, 2, [], .null) := by decide +kernel
theorem w64_74 : Wp d 64 74 [l0, l1, l2, l3, some (.int x), l5] st h Q = Wp d 64 76 [l0, l1, l2, l3, some (.int x), l5] (.int x :: st) h Q := W_go f64_74 rfl
theorem f64_76 : fetch 64 76 = some (.tableswitch 74 4 7 #[32, 40, 49, 59], 32, [], .null) := by decide +kernel
theorem w64_76 : Wp d 64 76 [l0, l1, l2, l3, l4, l5] (.int x :: st) h Q = Wp d 64 (ptable 76 74 4 7 #[32, 40, 49, 59] x) [l0, l1, l2, l3, l4, l5] st h Q := W_go f64_76 rfl
theorem f64_108 : fetch 64 108 = some (.aload 5, 2, [], .null) := by decide +kernel
theorem w64_108 : Wp d 64 108 [l0, l1, l2, l3, l4, some (.ref a)] st h Q = Wp d 64 110 [l0, l1, l2, l3, l4, some (.ref a)] (.ref a :: st) h Q := W_go f64_108 rfl
theorem f64_110 : fetch 64 110 = some (.invokevirtual 201, 3, [5, 1, 2, 0, 4232, 1011, 4150, 4148, 4149], .null) := by decide +kernel
theorem w64_110 (hp : psum st ≤ 8) : Wp d 64 110 [l0, l1, l2, l3, l4, l5] ((.ref b) :: st) h Q = rP (h.2 b) 1 (Cp d 5 [(.ref b)] h (fun o => cK o (fun w h2 => Wp d 64 113 [l0, l1, l2, l3, l4, l5] (w.toList ++ st) h2 Q) (fun E h2 => Q (.inr E, h2)))) := (W_invV (st := st) f64_110 rfl rfl (by simp only [List.length_cons]; omega) rfl rfl hp).trans (by simp only [hm64, if_true])
theorem f64_113 : fetch 64 113 = some (.goto 37, 3, [], .null) := by decide +kernel
theorem w64_113 : Wp d 64 113 [l0, l1, l2, l3, l4, l5] st h Q = Wp d 64 150 [l0, l1, l2, l3, l4, l5] st h Q := W_go f64_113 rfl
theorem f64_116 : fetch 64 116 = some (.aload 5, 2, [], .null) := by decide +kernel
theorem w64_116 : Wp d 64 116 [l0, l1, l2, l3, l4, some (.ref a)] st h Q = Wp d 64 118 [l0, l1, l2, l3, l4, some (.ref a)] (.ref a :: st) h Q := W_go f64_116 rfl
theorem f64_118 : fetch 64 118 = some (.iconst 0, 1, [], .null) := by decide +kernel
theorem w64_118 : Wp d 64 118 [l0, l1, l2, l3, l4, l5] st h Q = Wp d 64 119 [l0, l1, l2, l3, l4, l5] (.int (0 : Int32) :: st) h Q := W_go f64_118 rfl
theorem f64_119 : fetch 64 119 = some (.putfield 100, 3, [1, 6, 2049, 0], .null) := by decide +kernel
theorem w64_119 : Wp d 64 119 [l0, l1, l2, l3, l4, l5] (v :: .ref a :: st) h Q = pP (h.2 a) 1 6 (ftOf 1 6) v a (fun c => Wp d 64 122 [l0, l1, l2, l3, l4, l5] st (hset h a c) Q) := W_put f64_119 (by rfl)
theorem f64_122 : fetch 64 122 = some (.goto 28, 3, [], .null) := by decide +kernel
theorem w64_122 : Wp d 64 122 [l0, l1, l2, l3, l4, l5] st h Q = Wp d 64 150 [l0, l1, l2, l3, l4, l5] st h Q := W_go f64_122 rfl
theorem f64_125 : fetch 64 125 = some (.aload 5, 2, [], .null) := by decide +kernel
theorem w64_125 : Wp d 64 125 [l0, l1, l2, l3, l4, some (.ref a)] st h Q = Wp d 64 127 [l0, l1, l2, l3, l4, some (.ref a)] (.ref a :: st) h Q := W_go f64_125 rfl
theorem f64_127 : fetch 64 127 = some (.bipush 10, 2, [], .null) := by decide +kernel
theorem w64_127 : Wp d 64 127 [l0, l1, l2, l3, l4, l5] st h Q = Wp d 64 129 [l0, l1, l2, l3, l4, l5] (.int (10 : Int32) :: st) h Q := W_go f64_127 rfl
theorem f64_129 : fetch 64 129 = some (.putfield 204, 3, [1, 3, 2043, 0], .null) := by decide +kernel
theorem w64_129 : Wp d 64 129 [l0, l1, l2, l3, l4, l5] (v :: .ref a :: st) h Q = pP (h.2 a) 1 3 (ftOf 1 3) v a (fun c => Wp d 64 132 [l0, l1, l2, l3, l4, l5] st (hset h a c) Q) := W_put f64_129 (by rfl)
theorem f64_132 : fetch 64 132 = some (.goto 18, 3, [], .null) := by decide +kernel
theorem w64_132 : Wp d 64 132 [l0, l1, l2, l3, l4, l5] st h Q = Wp d 64 150 [l0, l1, l2, l3, l4, l5] st h Q := W_go f64_132 rfl
theorem f64_135 : fetch 64 135 = some (.aload_n 1, 1, [], .null) := by decide +kernel
theorem w64_135 : Wp d 64 135 [l0, some (.ref a), l2, l3, l4, l5] st h Q = Wp d 64 136 [l0, some (.ref a), l2, l3, l4, l5] (.ref a :: st) h Q := W_go f64_135 rfl
theorem f64_136 : fetch 64 136 = some (.aload 5, 2, [], .null) := by decide +kernel
theorem w64_136 : Wp d 64 136 [l0, l1, l2, l3, l4, some (.ref a)] st h Q = Wp d 64 138 [l0, l1, l2, l3, l4, some (.ref a)] (.ref a :: st) h Q := W_go f64_136 rfl
theorem f64_138 : fetch 64 138 = some (.aload_n 0, 1, [], .null) := by decide +kernel
theorem w64_138 : Wp d 64 138 [some (.ref a), l1, l2, l3, l4, l5] st h Q = Wp d 64 139 [some (.ref a), l1, l2, l3, l4, l5] (.ref a :: st) h Q := W_go f64_138 rfl
theorem f64_139 : fetch 64 139 = some (.aload_n 1, 1, [], .null) := by decide +kernel
theorem w64_139 : Wp d 64 139 [l0, some (.ref a), l2, l3, l4, l5] st h Q = Wp d 64 140 [l0, some (.ref a), l2, l3, l4, l5] (.ref a :: st) h Q := W_go f64_139 rfl
theorem f64_140 : fetch 64 140 = some (.iload_n 3, 1, [], .null) := by decide +kernel
theorem w64_140 : Wp d 64 140 [l0, l1, l2, some (.int x), l4, l5] st h Q = Wp d 64 141 [l0, l1, l2, some (.int x), l4, l5] (.int x :: st) h Q := W_go f64_140 rfl
theorem f64_141 : fetch 64 141 = some (.invokevirtual 152, 3, [66, 3, 7, 0, 4203, 1010, 4206, 4205, 26], .null) := by decide +kernel
theorem w64_141 (hp : psum st ≤ 8) : Wp d 64 141 [l0, l1, l2, l3, l4, l5] (v2 :: v1 :: (.ref b) :: st) h Q = rP (h.2 b) 6 (Cp d 66 [(.ref b), v1, v2] h (fun o => cK o (fun w h2 => Wp d 64 144 [l0, l1, l2, l3, l4, l5] (w.toList ++ st) h2 Q) (fun E h2 => Q (.inr E, h2)))) := (W_invV (st := st) f64_141 rfl rfl (by simp only [List.length_cons]; omega) rfl rfl hp).trans (by simp only [hm64, if_true])
theorem f64_144 : fetch 64 144 = some (.invokestatic 207, 3, [65, 3, 0, 0, 4233, 1010, 4235, 4234], .null) := by decide +kernel
theorem w64_144 (hp : psum st ≤ 8) : Wp d 64 144 [l0, l1, l2, l3, l4, l5] (v2 :: v1 :: v0 :: st) h Q = Cp d 65 [v0, v1, v2] h (fun o => cK o (fun w h2 => Wp d 64 147 [l0, l1, l2, l3, l4, l5] (w.toList ++ st) h2 Q) (fun _ _ => False)) := (W_invS (st := st) f64_144 rfl rfl (by simp only [List.length_cons]; omega) rfl rfl hp)
theorem f64_147 : fetch 64 147 = some (.goto 3, 3, [], .null) := by decide +kernel
theorem w64_147 : Wp d 64 147 [l0, l1, l2, l3, l4, l5] st h Q = Wp d 64 150 [l0, l1, l2, l3, l4, l5] st h Q := W_go f64_147 rfl
theorem f64_150 : fetch 64 150 = some (.return_, 1, [], .null) := by decide +kernel
theorem w64_150 : Wp d 64 150 [l0, l1, l2, l3, l4, l5] [] h Q = Q (.inl none, h) := W_fin f64_150 rfl
theorem hm65 : mhs 65 = [] := by decide +kernel
theorem f65_0 : fetch 65 0 = some (.iconst 0, 1, [], .null) := by decide +kernel
theorem w65_0 : Wp d 65 0 [l0, l1, l2, l3] st h Q = Wp d 65 1 [l0, l1, l2, l3] (.int (0 : Int32) :: st) h Q := W_go f65_0 rfl
theorem f65_1 : fetch 65 1 = some (.iload_n 2, 1, [], .null) := by decide +kernel
theorem w65_1 : Wp d 65 1 [l0, l1, some (.int x), l3] st h Q = Wp d 65 2 [l0, l1, some (.int x), l3] (.int x :: st) h Q := W_go f65_1 rfl
theorem f65_2 : fetch 65 2 = some (.aload_n 0, 1, [], .null) := by decide +kernel
theorem w65_2 : Wp d 65 2 [some (.ref a), l1, l2, l3] st h Q = Wp d 65 3 [some (.ref a), l1, l2, l3] (.ref a :: st) h Q := W_go f65_2 rfl
theorem f65_3 : fetch 65 3 = some (.getfield 211, 3, [2, 1, 2074, 0], .null) := by decide +kernel
theorem w65_3 : Wp d 65 3 [l0, l1, l2, l3] (.ref a :: st) h Q = gP (h.2 a) 2 1 (fun w => Wp d 65 6 [l0, l1, l2, l3] (w :: st) h Q) := W_get f65_3 rfl
theorem f65_6 : fetch 65 6 = some (.aload_n 1, 1, [], .null) := by decide +kernel
theorem w65_6 : Wp d 65 6 [l0, some (.ref a), l2, l3] st h Q = Wp d 65 7 [l0, some (.ref a), l2, l3] (.ref a :: st) h Q := W_go f65_6 rfl
theorem f65_7 : fetch 65 7 = some (.getfield 214, 3, [1, 1, 2037, 0], .null) := by decide +kernel
theorem w65_7 : Wp d 65 7 [l0, l1, l2, l3] (.ref a :: st) h Q = gP (h.2 a) 1 1 (fun w => Wp d 65 10 [l0, l1, l2, l3] (w :: st) h Q) := W_get f65_7 rfl
theorem f65_10 : fetch 65 10 = some (.aload_n 1, 1, [], .null) := by decide +kernel
theorem w65_10 : Wp d 65 10 [l0, some (.ref a), l2, l3] st h Q = Wp d 65 11 [l0, some (.ref a), l2, l3] (.ref a :: st) h Q := W_go f65_10 rfl
theorem f65_11 : fetch 65 11 = some (.getfield 217, 3, [1, 2, 2040, 0], .null) := by decide +kernel
theorem w65_11 : Wp d 65 11 [l0, l1, l2, l3] (.ref a :: st) h Q = gP (h.2 a) 1 2 (fun w => Wp d 65 14 [l0, l1, l2, l3] (w :: st) h Q) := W_get f65_11 rfl
theorem f65_14 : fetch 65 14 = some (.isub, 1, [], .null) := by decide +kernel
theorem w65_14 : Wp d 65 14 [l0, l1, l2, l3] (.int y :: .int x :: st) h Q = Wp d 65 15 [l0, l1, l2, l3] (.int (x - y) :: st) h Q := W_go f65_14 rfl
theorem f65_15 : fetch 65 15 = some (.invokestatic 220, 3, [9997, 2, 4236, 3004, 1021, 3005], .null) := by decide +kernel
theorem w65_15 (hp : psum st ≤ 8) : Wp d 65 15 [l0, l1, l2, l3] (.int y :: .int x :: st) h Q = Wp d 65 18 [l0, l1, l2, l3] (.int (if y < x then y else x) :: st) h Q := W_go f65_15 (by simp only [pstep, pmath, if_pos hp]; rfl)
theorem f65_18 : fetch 65 18 = some (.invokestatic 220, 3, [9997, 2, 4236, 3004, 1021, 3005], .null) := by decide +kernel
theorem w65_18 (hp : psum st ≤ 8) : Wp d 65 18 [l0, l1, l2, l3] (.int y :: .int x :: st) h Q = Wp d 65 21 [l0, l1, l2, l3] (.int (if y < x then y else x) :: st) h Q := W_go f65_18 (by simp only [pstep, pmath, if_pos hp]; rfl)
theorem f65_21 : fetch 65 21 = some (.invokestatic 224, 3, [9997, 1, 4237, 3001, 1021, 3002], .null) := by decide +kernel
theorem w65_21 (hp : psum st ≤ 8) : Wp d 65 21 [l0, l1, l2, l3] (.int y :: .int x :: st) h Q = Wp d 65 24 [l0, l1, l2, l3] (.int (if x < y then y else x) :: st) h Q := W_go f65_21 (by simp only [pstep, pmath, if_pos hp]; rfl)
theorem f65_24 : fetch 65 24 = some (.istore_n 3, 1, [], .null) := by decide +kernel
theorem w65_24 : Wp d 65 24 [l0, l1, l2, l3] (.int x :: st) h Q = Wp d 65 25 [l0, l1, kl l2, some (.int x)] st h Q := (W_st1 (pc' := 25) (k := 3) f65_24 rfl rfl (by simp only [List.length_cons, List.length_nil]; omega)).trans (by rw [pst1_succ]; rfl)
theorem f65_25 : fetch 65 25 = some (.aload_n 0, 1, [], .null) := by decide +kernel
theorem w65_25 : Wp d 65 25 [some (.ref a), l1, l2, l3] st h Q = Wp d 65 26 [some (.ref a), l1, l2, l3] (.ref a :: st) h Q := W_go f65_25 rfl
theorem f65_26 : fetch 65 26 = some (.dup, 1, [], .null) := by decide +kernel
theorem w65_26i : Wp d 65 26 [l0, l1, l2, l3] (.int x :: st) h Q = Wp d 65 27 [l0, l1, l2, l3] (.int x :: .int x :: st) h Q := W_go f65_26 rfl
theorem w65_26 : Wp d 65 26 [l0, l1, l2, l3] (.ref a :: st) h Q = Wp d 65 27 [l0, l1, l2, l3] (.ref a :: .ref a :: st) h Q := W_go f65_26 rfl
theorem f65_27 : fetch 65 27 = some (.getfield 211, 3, [2, 1, 2074, 0], .null) := by decide +kernel
theorem w65_27 : Wp d 65 27 [l0, l1, l2, l3] (.ref a :: st) h Q = gP (h.2 a) 2 1 (fun w => Wp d 65 30 [l0, l1, l2, l3] (w :: st) h Q) := W_get f65_27 rfl
theorem f65_30 : fetch 65 30 = some (.iload_n 3, 1, [], .null) := by decide +kernel
theorem w65_30 : Wp d 65 30 [l0, l1, l2, some (.int x)] st h Q = Wp d 65 31 [l0, l1, l2, some (.int x)] (.int x :: st) h Q := W_go f65_30 rfl
theorem f65_31 : fetch 65 31 = some (.isub, 1, [], .null) := by decide +kernel
theorem w65_31 : Wp d 65 31 [l0, l1, l2, l3] (.int y :: .int x :: st) h Q = Wp d 65 32 [l0, l1, l2, l3] (.int (x - y) :: st) h Q := W_go f65_31 rfl
theorem f65_32 : fetch 65 32 = some (.putfield 211, 3, [2, 1, 2074, 0], .null) := by decide +kernel
theorem w65_32 : Wp d 65 32 [l0, l1, l2, l3] (v :: .ref a :: st) h Q = pP (h.2 a) 2 1 (ftOf 2 1) v a (fun c => Wp d 65 35 [l0, l1, l2, l3] st (hset h a c) Q) := W_put f65_32 (by rfl)
theorem f65_35 : fetch 65 35 = some (.aload_n 1, 1, [], .null) := by decide +kernel
theorem w65_35 : Wp d 65 35 [l0, some (.ref a), l2, l3] st h Q = Wp d 65 36 [l0, some (.ref a), l2, l3] (.ref a :: st) h Q := W_go f65_35 rfl
theorem f65_36 : fetch 65 36 = some (.dup, 1, [], .null) := by decide +kernel
theorem w65_36i : Wp d 65 36 [l0, l1, l2, l3] (.int x :: st) h Q = Wp d 65 37 [l0, l1, l2, l3] (.int x :: .int x :: st) h Q := W_go f65_36 rfl
theorem w65_36 : Wp d 65 36 [l0, l1, l2, l3] (.ref a :: st) h Q = Wp d 65 37 [l0, l1, l2, l3] (.ref a :: .ref a :: st) h Q := W_go f65_36 rfl
theorem f65_37 : fetch 65 37 = some (.getfield 217, 3, [1, 2, 2040, 0], .null) := by decide +kernel
theorem w65_37 : Wp d 65 37 [l0, l1, l2, l3] (.ref a :: st) h Q = gP (h.2 a) 1 2 (fun w => Wp d 65 40 [l0, l1, l2, l3] (w :: st) h Q) := W_get f65_37 rfl
theorem f65_40 : fetch 65 40 = some (.iload_n 3, 1, [], .null) := by decide +kernel
theorem w65_40 : Wp d 65 40 [l0, l1, l2, some (.int x)] st h Q = Wp d 65 41 [l0, l1, l2, some (.int x)] (.int x :: st) h Q := W_go f65_40 rfl
theorem f65_41 : fetch 65 41 = some (.iadd, 1, [], .null) := by decide +kernel
theorem w65_41 : Wp d 65 41 [l0, l1, l2, l3] (.int y :: .int x :: st) h Q = Wp d 65 42 [l0, l1, l2, l3] (.int (x + y) :: st) h Q := W_go f65_41 rfl
theorem f65_42 : fetch 65 42 = some (.putfield 217, 3, [1, 2, 2040, 0], .null) := by decide +kernel
theorem w65_42 : Wp d 65 42 [l0, l1, l2, l3] (v :: .ref a :: st) h Q = pP (h.2 a) 1 2 (ftOf 1 2) v a (fun c => Wp d 65 45 [l0, l1, l2, l3] st (hset h a c) Q) := W_put f65_42 (by rfl)
theorem f65_45 : fetch 65 45 = some (.return_, 1, [], .null) := by decide +kernel
theorem w65_45 : Wp d 65 45 [l0, l1, l2, l3] [] h Q = Q (.inl none, h) := W_fin f65_45 rfl
theorem hm66 : mhs 66 = [] := by decide +kernel
theorem hr66 : mret 66 = (some .int) := by decide +kernel
theorem f66_0 : fetch 66 0 = some (.iload_n 2, 1, [], .null) := by decide +kernel
theorem w66_0 : Wp d 66 0 [l0, l1, some (.int x), l3] st h Q = Wp d 66 1 [l0, l1, some (.int x), l3] (.int x :: st) h Q := W_go f66_0 rfl
theorem f66_1 : fetch 66 1 = some (.ifCond .lt 5, 3, [], .null) := by decide +kernel
theorem w66_1 : Wp d 66 1 [l0, l1, l2, l3] (.int x :: st) h Q = if icond .lt x 0 = true then Wp d 66 6 [l0, l1, l2, l3] st h Q else Wp d 66 4 [l0, l1, l2, l3] st h Q := W_if f66_1 rfl
theorem f66_4 : fetch 66 4 = some (.iload_n 2, 1, [], .null) := by decide +kernel
theorem w66_4 : Wp d 66 4 [l0, l1, some (.int x), l3] st h Q = Wp d 66 5 [l0, l1, some (.int x), l3] (.int x :: st) h Q := W_go f66_4 rfl
theorem f66_5 : fetch 66 5 = some (.ireturn, 1, [], .null) := by decide +kernel
theorem w66_5 : Wp d 66 5 [l0, l1, l2, l3] [.int x] h Q = Q (.inl (some (.int x)), h) := W_iret f66_5 hr66
theorem f66_6 : fetch 66 6 = some (.aload_n 0, 1, [], .null) := by decide +kernel
theorem w66_6 : Wp d 66 6 [some (.ref a), l1, l2, l3] st h Q = Wp d 66 7 [some (.ref a), l1, l2, l3] (.ref a :: st) h Q := W_go f66_6 rfl
theorem f66_7 : fetch 66 7 = some (.aload_n 1, 1, [], .null) := by decide +kernel
theorem w66_7 : Wp d 66 7 [l0, some (.ref a), l2, l3] st h Q = Wp d 66 8 [l0, some (.ref a), l2, l3] (.ref a :: st) h Q := W_go f66_7 rfl
theorem f66_8 : fetch 66 8 = some (.getfield 155, 3, [2, 2, 2077, 0], .null) := by decide +kernel
theorem w66_8 : Wp d 66 8 [l0, l1, l2, l3] (.ref a :: st) h Q = gP (h.2 a) 2 2 (fun w => Wp d 66 11 [l0, l1, l2, l3] (w :: st) h Q) := W_get f66_8 rfl
theorem f66_11 : fetch 66 11 = some (.invokevirtual 197, 3, [67, 2, 7, 0, 4207, 1010, 4210, 4209, 27], .null) := by decide +kernel
theorem w66_11 (hp : psum st ≤ 8) : Wp d 66 11 [l0, l1, l2, l3] (v1 :: (.ref b) :: st) h Q = rP (h.2 b) 6 (Cp d 67 [(.ref b), v1] h (fun o => cK o (fun w h2 => Wp d 66 14 [l0, l1, l2, l3] (w.toList ++ st) h2 Q) (fun E h2 => Q (.inr E, h2)))) := (W_invV (st := st) f66_11 rfl rfl (by simp only [List.length_cons]; omega) rfl rfl hp).trans (by simp only [hm66, if_true])
theorem f66_14 : fetch 66 14 = some (.astore_n 3, 1, [], .null) := by decide +kernel
theorem w66_14 : Wp d 66 14 [l0, l1, l2, l3] (.ref a :: st) h Q = Wp d 66 15 [l0, l1, kl l2, some (.ref a)] st h Q := (W_st1 (pc' := 15) (k := 3) f66_14 rfl rfl (by simp only [List.length_cons, List.length_nil]; omega)).trans (by rw [pst1_succ]; rfl)
theorem f66_15 : fetch 66 15 = some (.iload_n 2, 1, [], .null) := by decide +kernel
theorem w66_15 : Wp d 66 15 [l0, l1, some (.int x), l3] st h Q = Wp d 66 16 [l0, l1, some (.int x), l3] (.int x :: st) h Q := W_go f66_15 rfl
theorem f66_16 : fetch 66 16 = some (.ineg, 1, [], .null) := by decide +kernel
theorem w66_16 : Wp d 66 16 [l0, l1, l2, l3] (.int x :: st) h Q = Wp d 66 17 [l0, l1, l2, l3] (.int (-x) :: st) h Q := W_go f66_16 rfl
theorem f66_17 : fetch 66 17 = some (.tableswitch 104 16 21 #[39, 52, 65, 86, 91, 99], 39, [], .null) := by decide +kernel
theorem w66_17 : Wp d 66 17 [l0, l1, l2, l3] (.int x :: st) h Q = Wp d 66 (ptable 17 104 16 21 #[39, 52, 65, 86, 91, 99] x) [l0, l1, l2, l3] st h Q := W_go f66_17 rfl
theorem f66_56 : fetch 66 56 = some (.aload_n 3, 1, [], .null) := by decide +kernel
theorem w66_56 : Wp d 66 56 [l0, l1, l2, some (.ref a)] st h Q = Wp d 66 57 [l0, l1, l2, some (.ref a)] (.ref a :: st) h Q := W_go f66_56 rfl
theorem f66_57 : fetch 66 57 = some (.ifnonnull 7, 3, [], .null) := by decide +kernel
theorem w66_57n : Wp d 66 57 [l0, l1, l2, l3] (.null :: st) h Q = Wp d 66 60 [l0, l1, l2, l3] st h Q := W_go f66_57 rfl
theorem w66_57 (ha : a ≠ 201) : Wp d 66 57 [l0, l1, l2, l3] (.ref a :: st) h Q = Wp d 66 64 [l0, l1, l2, l3] st h Q := W_go f66_57 (by simp only [pstep, if_neg ha]; rfl)
theorem f66_60 : fetch 66 60 = some (.iconst (-1), 1, [], .null) := by decide +kernel
theorem w66_60 : Wp d 66 60 [l0, l1, l2, l3] st h Q = Wp d 66 61 [l0, l1, l2, l3] (.int (-1 : Int32) :: st) h Q := W_go f66_60 rfl
theorem f66_61 : fetch 66 61 = some (.goto 7, 3, [], .null) := by decide +kernel
theorem w66_61 : Wp d 66 61 [l0, l1, l2, l3] st h Q = Wp d 66 68 [l0, l1, l2, l3] st h Q := W_go f66_61 rfl
theorem f66_64 : fetch 66 64 = some (.aload_n 3, 1, [], .null) := by decide +kernel
theorem w66_64 : Wp d 66 64 [l0, l1, l2, some (.ref a)] st h Q = Wp d 66 65 [l0, l1, l2, some (.ref a)] (.ref a :: st) h Q := W_go f66_64 rfl
theorem f66_65 : fetch 66 65 = some (.getfield 217, 3, [1, 2, 2040, 0], .null) := by decide +kernel
theorem w66_65 : Wp d 66 65 [l0, l1, l2, l3] (.ref a :: st) h Q = gP (h.2 a) 1 2 (fun w => Wp d 66 68 [l0, l1, l2, l3] (w :: st) h Q) := W_get f66_65 rfl
theorem f66_68 : fetch 66 68 = some (.ireturn, 1, [], .null) := by decide +kernel
theorem w66_68 : Wp d 66 68 [l0, l1, l2, l3] [.int x] h Q = Q (.inl (some (.int x)), h) := W_iret f66_68 hr66
theorem f66_69 : fetch 66 69 = some (.aload_n 3, 1, [], .null) := by decide +kernel
theorem w66_69 : Wp d 66 69 [l0, l1, l2, some (.ref a)] st h Q = Wp d 66 70 [l0, l1, l2, some (.ref a)] (.ref a :: st) h Q := W_go f66_69 rfl
theorem f66_70 : fetch 66 70 = some (.ifnonnull 7, 3, [], .null) := by decide +kernel
theorem w66_70n : Wp d 66 70 [l0, l1, l2, l3] (.null :: st) h Q = Wp d 66 73 [l0, l1, l2, l3] st h Q := W_go f66_70 rfl
theorem w66_70 (ha : a ≠ 201) : Wp d 66 70 [l0, l1, l2, l3] (.ref a :: st) h Q = Wp d 66 77 [l0, l1, l2, l3] st h Q := W_go f66_70 (by simp only [pstep, if_neg ha]; rfl)
theorem f66_73 : fetch 66 73 = some (.iconst (-1), 1, [], .null) := by decide +kernel
theorem w66_73 : Wp d 66 73 [l0, l1, l2, l3] st h Q = Wp d 66 74 [l0, l1, l2, l3] (.int (-1 : Int32) :: st) h Q := W_go f66_73 rfl
theorem f66_74 : fetch 66 74 = some (.goto 7, 3, [], .null) := by decide +kernel
theorem w66_74 : Wp d 66 74 [l0, l1, l2, l3] st h Q = Wp d 66 81 [l0, l1, l2, l3] st h Q := W_go f66_74 rfl
theorem f66_77 : fetch 66 77 = some (.aload_n 3, 1, [], .null) := by decide +kernel
theorem w66_77 : Wp d 66 77 [l0, l1, l2, some (.ref a)] st h Q = Wp d 66 78 [l0, l1, l2, some (.ref a)] (.ref a :: st) h Q := W_go f66_77 rfl
theorem f66_78 : fetch 66 78 = some (.getfield 204, 3, [1, 3, 2043, 0], .null) := by decide +kernel
theorem w66_78 : Wp d 66 78 [l0, l1, l2, l3] (.ref a :: st) h Q = gP (h.2 a) 1 3 (fun w => Wp d 66 81 [l0, l1, l2, l3] (w :: st) h Q) := W_get f66_78 rfl
theorem f66_81 : fetch 66 81 = some (.ireturn, 1, [], .null) := by decide +kernel
theorem w66_81 : Wp d 66 81 [l0, l1, l2, l3] [.int x] h Q = Q (.inl (some (.int x)), h) := W_iret f66_81 hr66
theorem f66_82 : fetch 66 82 = some (.aload_n 3, 1, [], .null) := by decide +kernel
theorem w66_82 : Wp d 66 82 [l0, l1, l2, some (.ref a)] st h Q = Wp d 66 83 [l0, l1, l2, some (.ref a)] (.ref a :: st) h Q := W_go f66_82 rfl
theorem f66_83 : fetch 66 83 = some (.ifnonnull 7, 3, [], .null) := by decide +kernel
theorem w66_83n : Wp d 66 83 [l0, l1, l2, l3] (.null :: st) h Q = Wp d 66 86 [l0, l1, l2, l3] st h Q := W_go f66_83 rfl
theorem w66_83 (ha : a ≠ 201) : Wp d 66 83 [l0, l1, l2, l3] (.ref a :: st) h Q = Wp d 66 90 [l0, l1, l2, l3] st h Q := W_go f66_83 (by simp only [pstep, if_neg ha]; rfl)
theorem f66_86 : fetch 66 86 = some (.iconst (-1), 1, [], .null) := by decide +kernel
theorem w66_86 : Wp d 66 86 [l0, l1, l2, l3] st h Q = Wp d 66 87 [l0, l1, l2, l3] (.int (-1 : Int32) :: st) h Q := W_go f66_86 rfl
theorem f66_87 : fetch 66 87 = some (.goto 15, 3, [], .null) := by decide +kernel
theorem w66_87 : Wp d 66 87 [l0, l1, l2, l3] st h Q = Wp d 66 102 [l0, l1, l2, l3] st h Q := W_go f66_87 rfl
theorem f66_90 : fetch 66 90 = some (.aload_n 3, 1, [], .null) := by decide +kernel
theorem w66_90 : Wp d 66 90 [l0, l1, l2, some (.ref a)] st h Q = Wp d 66 91 [l0, l1, l2, some (.ref a)] (.ref a :: st) h Q := W_go f66_90 rfl
theorem f66_91 : fetch 66 91 = some (.getfield 100, 3, [1, 6, 2049, 0], .null) := by decide +kernel
theorem w66_91 : Wp d 66 91 [l0, l1, l2, l3] (.ref a :: st) h Q = gP (h.2 a) 1 6 (fun w => Wp d 66 94 [l0, l1, l2, l3] (w :: st) h Q) := W_get f66_91 rfl
theorem f66_94 : fetch 66 94 = some (.ifCond .eq 7, 3, [], .null) := by decide +kernel
theorem w66_94 : Wp d 66 94 [l0, l1, l2, l3] (.int x :: st) h Q = if icond .eq x 0 = true then Wp d 66 101 [l0, l1, l2, l3] st h Q else Wp d 66 97 [l0, l1, l2, l3] st h Q := W_if f66_94 rfl
theorem f66_97 : fetch 66 97 = some (.iconst 1, 1, [], .null) := by decide +kernel
theorem w66_97 : Wp d 66 97 [l0, l1, l2, l3] st h Q = Wp d 66 98 [l0, l1, l2, l3] (.int (1 : Int32) :: st) h Q := W_go f66_97 rfl
theorem f66_98 : fetch 66 98 = some (.goto 4, 3, [], .null) := by decide +kernel
theorem w66_98 : Wp d 66 98 [l0, l1, l2, l3] st h Q = Wp d 66 102 [l0, l1, l2, l3] st h Q := W_go f66_98 rfl
theorem f66_101 : fetch 66 101 = some (.iconst 0, 1, [], .null) := by decide +kernel
theorem w66_101 : Wp d 66 101 [l0, l1, l2, l3] st h Q = Wp d 66 102 [l0, l1, l2, l3] (.int (0 : Int32) :: st) h Q := W_go f66_101 rfl
theorem f66_102 : fetch 66 102 = some (.ireturn, 1, [], .null) := by decide +kernel
theorem w66_102 : Wp d 66 102 [l0, l1, l2, l3] [.int x] h Q = Q (.inl (some (.int x)), h) := W_iret f66_102 hr66
theorem f66_103 : fetch 66 103 = some (.aload_n 1, 1, [], .null) := by decide +kernel
theorem w66_103 : Wp d 66 103 [l0, some (.ref a), l2, l3] st h Q = Wp d 66 104 [l0, some (.ref a), l2, l3] (.ref a :: st) h Q := W_go f66_103 rfl
theorem f66_104 : fetch 66 104 = some (.getfield 211, 3, [2, 1, 2074, 0], .null) := by decide +kernel
theorem w66_104 : Wp d 66 104 [l0, l1, l2, l3] (.ref a :: st) h Q = gP (h.2 a) 2 1 (fun w => Wp d 66 107 [l0, l1, l2, l3] (w :: st) h Q) := W_get f66_104 rfl
theorem f66_107 : fetch 66 107 = some (.ireturn, 1, [], .null) := by decide +kernel
theorem w66_107 : Wp d 66 107 [l0, l1, l2, l3] [.int x] h Q = Q (.inl (some (.int x)), h) := W_iret f66_107 hr66
theorem f66_108 : fetch 66 108 = some (.aload_n 0, 1, [], .null) := by decide +kernel
theorem w66_108 : Wp d 66 108 [some (.ref a), l1, l2, l3] st h Q = Wp d 66 109 [some (.ref a), l1, l2, l3] (.ref a :: st) h Q := W_go f66_108 rfl
theorem f66_109 : fetch 66 109 = some (.getfield 29, 3, [6, 4, 2127, 0], .null) := by decide +kernel
theorem w66_109 : Wp d 66 109 [l0, l1, l2, l3] (.ref a :: st) h Q = gP (h.2 a) 6 4 (fun w => Wp d 66 112 [l0, l1, l2, l3] (w :: st) h Q) := W_get f66_109 rfl
theorem f66_112 : fetch 66 112 = some (.invokestatic 79, 3, [114, 1, 0, 1, 3185, 1001, 3176, 3175], .null) := by decide +kernel
theorem w66_112 (hp : psum st ≤ 8) : Wp d 66 112 [l0, l1, l2, l3] (v0 :: st) h Q = Cp d 114 [v0] h (fun o => cK o (fun w h2 => Wp d 66 115 [l0, l1, l2, l3] (w.toList ++ st) h2 Q) (fun _ _ => False)) := (W_invS (st := st) f66_112 rfl rfl (by simp only [List.length_cons]; omega) rfl rfl hp)
theorem f66_115 : fetch 66 115 = some (.ireturn, 1, [], .null) := by decide +kernel
theorem w66_115 : Wp d 66 115 [l0, l1, l2, l3] [.int x] h Q = Q (.inl (some (.int x)), h) := W_iret f66_115 hr66
theorem f66_116 : fetch 66 116 = some (.aload_n 0, 1, [], .null) := by decide +kernel
theorem w66_116 : Wp d 66 116 [some (.ref a), l1, l2, l3] st h Q = Wp d 66 117 [some (.ref a), l1, l2, l3] (.ref a :: st) h Q := W_go f66_116 rfl
theorem f66_117 : fetch 66 117 = some (.getfield 33, 3, [6, 5, 2129, 0], .null) := by decide +kernel
theorem w66_117 : Wp d 66 117 [l0, l1, l2, l3] (.ref a :: st) h Q = gP (h.2 a) 6 5 (fun w => Wp d 66 120 [l0, l1, l2, l3] (w :: st) h Q) := W_get f66_117 rfl
theorem f66_120 : fetch 66 120 = some (.ireturn, 1, [], .null) := by decide +kernel
theorem w66_120 : Wp d 66 120 [l0, l1, l2, l3] [.int x] h Q = Q (.inl (some (.int x)), h) := W_iret f66_120 hr66
theorem f66_121 : fetch 66 121 = some (.aload_n 1, 1, [], .null) := by decide +kernel
theorem w66_121 : Wp d 66 121 [l0, some (.ref a), l2, l3] st h Q = Wp d 66 122 [l0, some (.ref a), l2, l3] (.ref a :: st) h Q := W_go f66_121 rfl
theorem f66_122 : fetch 66 122 = some (.getfield 155, 3, [2, 2, 2077, 0], .null) := by decide +kernel
theorem w66_122 : Wp d 66 122 [l0, l1, l2, l3] (.ref a :: st) h Q = gP (h.2 a) 2 2 (fun w => Wp d 66 125 [l0, l1, l2, l3] (w :: st) h Q) := W_get f66_122 rfl
theorem f66_125 : fetch 66 125 = some (.ireturn, 1, [], .null) := by decide +kernel
theorem w66_125 : Wp d 66 125 [l0, l1, l2, l3] [.int x] h Q = Q (.inl (some (.int x)), h) := W_iret f66_125 hr66
theorem hm67 : mhs 67 = [] := by decide +kernel
theorem f67_0 : fetch 67 0 = some (.iconst 0, 1, [], .null) := by decide +kernel
theorem w67_0 : Wp d 67 0 [l0, l1, l2] st h Q = Wp d 67 1 [l0, l1, l2] (.int (0 : Int32) :: st) h Q := W_go f67_0 rfl
theorem f67_1 : fetch 67 1 = some (.istore_n 2, 1, [], .null) := by decide +kernel
theorem w67_1 : Wp d 67 1 [l0, l1, l2] (.int x :: st) h Q = Wp d 67 2 [l0, kl l1, some (.int x)] st h Q := (W_st1 (pc' := 2) (k := 2) f67_1 rfl rfl (by simp only [List.length_cons, List.length_nil]; omega)).trans (by rw [pst1_succ]; rfl)
theorem f67_2 : fetch 67 2 = some (.iload_n 2, 1, [], .null) := by decide +kernel
theorem w67_2 : Wp d 67 2 [l0, l1, some (.int x)] st h Q = Wp d 67 3 [l0, l1, some (.int x)] (.int x :: st) h Q := W_go f67_2 rfl
theorem f67_3 : fetch 67 3 = some (.aload_n 0, 1, [], .null) := by decide +kernel
theorem w67_3 : Wp d 67 3 [some (.ref a), l1, l2] st h Q = Wp d 67 4 [some (.ref a), l1, l2] (.ref a :: st) h Q := W_go f67_3 rfl
theorem f67_4 : fetch 67 4 = some (.getfield 23, 3, [6, 0, 2119, 0], .null) := by decide +kernel
theorem w67_4 : Wp d 67 4 [l0, l1, l2] (.ref a :: st) h Q = gP (h.2 a) 6 0 (fun w => Wp d 67 7 [l0, l1, l2] (w :: st) h Q) := W_get f67_4 rfl
theorem f67_7 : fetch 67 7 = some (.getfield 43, 3, [0, 0, 1055, 0], .null) := by decide +kernel
theorem w67_7 : Wp d 67 7 [l0, l1, l2] (.ref a :: st) h Q = gP (h.2 a) 0 0 (fun w => Wp d 67 10 [l0, l1, l2] (w :: st) h Q) := W_get f67_7 rfl
theorem f67_10 : fetch 67 10 = some (.if_icmp .ge 38, 3, [], .null) := by decide +kernel
theorem w67_10 : Wp d 67 10 [l0, l1, l2] (.int y :: .int x :: st) h Q = if icond .ge x y = true then Wp d 67 48 [l0, l1, l2] st h Q else Wp d 67 13 [l0, l1, l2] st h Q := W_if f67_10 rfl
theorem f67_13 : fetch 67 13 = some (.iload_n 2, 1, [], .null) := by decide +kernel
theorem w67_13 : Wp d 67 13 [l0, l1, some (.int x)] st h Q = Wp d 67 14 [l0, l1, some (.int x)] (.int x :: st) h Q := W_go f67_13 rfl
theorem f67_14 : fetch 67 14 = some (.aload_n 0, 1, [], .null) := by decide +kernel
theorem w67_14 : Wp d 67 14 [some (.ref a), l1, l2] st h Q = Wp d 67 15 [some (.ref a), l1, l2] (.ref a :: st) h Q := W_go f67_14 rfl
theorem f67_15 : fetch 67 15 = some (.getfield 11, 3, [6, 1, 2121, 0], .null) := by decide +kernel
theorem w67_15 : Wp d 67 15 [l0, l1, l2] (.ref a :: st) h Q = gP (h.2 a) 6 1 (fun w => Wp d 67 18 [l0, l1, l2] (w :: st) h Q) := W_get f67_15 rfl
theorem f67_18 : fetch 67 18 = some (.arraylength, 1, [], .null) := by decide +kernel
theorem w67_18 : Wp d 67 18 [l0, l1, l2] (.ref a :: st) h Q = nP (h.2 a) (fun w => Wp d 67 19 [l0, l1, l2] (.int w :: st) h Q) := W_len f67_18 rfl
theorem f67_19 : fetch 67 19 = some (.if_icmp .ge 29, 3, [], .null) := by decide +kernel
theorem w67_19 : Wp d 67 19 [l0, l1, l2] (.int y :: .int x :: st) h Q = if icond .ge x y = true then Wp d 67 48 [l0, l1, l2] st h Q else Wp d 67 22 [l0, l1, l2] st h Q := W_if f67_19 rfl
theorem f67_22 : fetch 67 22 = some (.aload_n 0, 1, [], .null) := by decide +kernel
theorem w67_22 : Wp d 67 22 [some (.ref a), l1, l2] st h Q = Wp d 67 23 [some (.ref a), l1, l2] (.ref a :: st) h Q := W_go f67_22 rfl
theorem f67_23 : fetch 67 23 = some (.getfield 11, 3, [6, 1, 2121, 0], .null) := by decide +kernel
theorem w67_23 : Wp d 67 23 [l0, l1, l2] (.ref a :: st) h Q = gP (h.2 a) 6 1 (fun w => Wp d 67 26 [l0, l1, l2] (w :: st) h Q) := W_get f67_23 rfl
theorem f67_26 : fetch 67 26 = some (.iload_n 2, 1, [], .null) := by decide +kernel
theorem w67_26 : Wp d 67 26 [l0, l1, some (.int x)] st h Q = Wp d 67 27 [l0, l1, some (.int x)] (.int x :: st) h Q := W_go f67_26 rfl
theorem f67_27 : fetch 67 27 = some (.aaload, 1, [], .null) := by decide +kernel
theorem w67_27 : Wp d 67 27 [l0, l1, l2] (.int x :: .ref a :: st) h Q = qP (h.2 a) x (fun w => Wp d 67 28 [l0, l1, l2] (w :: st) h Q) := W_qld f67_27 rfl
theorem f67_28 : fetch 67 28 = some (.getfield 227, 3, [1, 0, 2033, 0], .null) := by decide +kernel
theorem w67_28 : Wp d 67 28 [l0, l1, l2] (.ref a :: st) h Q = gP (h.2 a) 1 0 (fun w => Wp d 67 31 [l0, l1, l2] (w :: st) h Q) := W_get f67_28 rfl
theorem f67_31 : fetch 67 31 = some (.iload_n 1, 1, [], .null) := by decide +kernel
theorem w67_31 : Wp d 67 31 [l0, some (.int x), l2] st h Q = Wp d 67 32 [l0, some (.int x), l2] (.int x :: st) h Q := W_go f67_31 rfl
theorem f67_32 : fetch 67 32 = some (.if_icmp .ne 10, 3, [], .null) := by decide +kernel
theorem w67_32 : Wp d 67 32 [l0, l1, l2] (.int y :: .int x :: st) h Q = if icond .ne x y = true then Wp d 67 42 [l0, l1, l2] st h Q else Wp d 67 35 [l0, l1, l2] st h Q := W_if f67_32 rfl
theorem f67_35 : fetch 67 35 = some (.aload_n 0, 1, [], .null) := by decide +kernel
theorem w67_35 : Wp d 67 35 [some (.ref a), l1, l2] st h Q = Wp d 67 36 [some (.ref a), l1, l2] (.ref a :: st) h Q := W_go f67_35 rfl
theorem f67_36 : fetch 67 36 = some (.getfield 11, 3, [6, 1, 2121, 0], .null) := by decide +kernel
theorem w67_36 : Wp d 67 36 [l0, l1, l2] (.ref a :: st) h Q = gP (h.2 a) 6 1 (fun w => Wp d 67 39 [l0, l1, l2] (w :: st) h Q) := W_get f67_36 rfl
theorem f67_39 : fetch 67 39 = some (.iload_n 2, 1, [], .null) := by decide +kernel
theorem w67_39 : Wp d 67 39 [l0, l1, some (.int x)] st h Q = Wp d 67 40 [l0, l1, some (.int x)] (.int x :: st) h Q := W_go f67_39 rfl
theorem f67_40 : fetch 67 40 = some (.aaload, 1, [], .null) := by decide +kernel
theorem w67_40 : Wp d 67 40 [l0, l1, l2] (.int x :: .ref a :: st) h Q = qP (h.2 a) x (fun w => Wp d 67 41 [l0, l1, l2] (w :: st) h Q) := W_qld f67_40 rfl
theorem f67_41 : fetch 67 41 = some (.areturn, 1, [], .null) := by decide +kernel
theorem w67_41 : Wp d 67 41 [l0, l1, l2] [.ref a] h Q = Q (.inl (some (.ref a)), h) := W_fin f67_41 rfl
theorem f67_42 : fetch 67 42 = some (.iinc 2 1, 3, [], .null) := by decide +kernel
theorem w67_42 : Wp d 67 42 [l0, l1, some (.int x)] st h Q = Wp d 67 45 [l0, kl l1, some (.int (x + (1 : Int32)))] st h Q := (W_iinc (y := (1 : Int32)) f67_42 rfl (by simp only [List.length_cons, List.length_nil]; omega) (by decide)).trans (by rw [pst1_succ]; rfl)
theorem f67_45 : fetch 67 45 = some (.goto (-43), 3, [], .null) := by decide +kernel
theorem w67_45 : Wp d 67 45 [l0, l1, l2] st h Q = Wp d 67 2 [l0, l1, l2] st h Q := W_go f67_45 rfl
theorem f67_48 : fetch 67 48 = some (.aconst_null, 1, [], .null) := by decide +kernel
theorem w67_48 : Wp d 67 48 [l0, l1, l2] st h Q = Wp d 67 49 [l0, l1, l2] (.null :: st) h Q := W_go f67_48 rfl
theorem f67_49 : fetch 67 49 = some (.areturn, 1, [], .null) := by decide +kernel
theorem w67_49 : Wp d 67 49 [l0, l1, l2] [.ref a] h Q = Q (.inl (some (.ref a)), h) := W_fin f67_49 rfl
theorem hm68 : mhs 68 = [] := by decide +kernel
theorem f68_0 : fetch 68 0 = some (.aload_n 0, 1, [], .null) := by decide +kernel
theorem w68_0 : Wp d 68 0 [some (.ref a), l1] st h Q = Wp d 68 1 [some (.ref a), l1] (.ref a :: st) h Q := W_go f68_0 rfl
theorem f68_1 : fetch 68 1 = some (.invokespecial 3, 3, [9999, 1030, 1031, 1032], .null) := by decide +kernel
theorem w68_1 (hp : psum st ≤ 8 ∧ a ≠ 201) : Wp d 68 1 [l0, l1] (.ref a :: st) h Q = Wp d 68 4 [l0, l1] st h Q := W_go f68_1 (by simp only [pstep, if_pos hp]; rfl)
theorem f68_4 : fetch 68 4 = some (.aload_n 0, 1, [], .null) := by decide +kernel
theorem w68_4 : Wp d 68 4 [some (.ref a), l1] st h Q = Wp d 68 5 [some (.ref a), l1] (.ref a :: st) h Q := W_go f68_4 rfl
theorem f68_5 : fetch 68 5 = some (.new 9, 3, [4, 1033, 1034, 1002], .null) := by decide +kernel
theorem w68_5 : Wp d 68 5 [l0, l1] st h Q = Wp d 68 8 [l0, l1] (.ref h.1.1 :: st) (hnew h (pdef 4).length (.inr (4, pdef 4))) Q := W_go f68_5 rfl
theorem f68_8 : fetch 68 8 = some (.dup, 1, [], .null) := by decide +kernel
theorem w68_8i : Wp d 68 8 [l0, l1] (.int x :: st) h Q = Wp d 68 9 [l0, l1] (.int x :: .int x :: st) h Q := W_go f68_8 rfl
theorem w68_8 : Wp d 68 8 [l0, l1] (.ref a :: st) h Q = Wp d 68 9 [l0, l1] (.ref a :: .ref a :: st) h Q := W_go f68_8 rfl
theorem f68_9 : fetch 68 9 = some (.invokespecial 11, 3, [37, 1, 0, 1, 1035, 1002, 1037, 1036], .null) := by decide +kernel
theorem w68_9 (hp : psum st ≤ 8) (hb : b ≠ 201) : Wp d 68 9 [l0, l1] ((.ref b) :: st) h Q = Cp d 37 [(.ref b)] h (fun o => cK o (fun w h2 => Wp d 68 12 [l0, l1] (w.toList ++ st) h2 Q) (fun _ _ => False)) := (W_invI (st := st) f68_9 rfl rfl (by simp only [List.length_cons]; omega) rfl rfl hp hb)
theorem f68_12 : fetch 68 12 = some (.putfield 12, 3, [7, 0, 2152, 0], .null) := by decide +kernel
theorem w68_12 : Wp d 68 12 [l0, l1] (v :: .ref a :: st) h Q = pP (h.2 a) 7 0 (ftOf 7 0) v a (fun c => Wp d 68 15 [l0, l1] st (hset h a c) Q) := W_put f68_12 (by rfl)
theorem f68_15 : fetch 68 15 = some (.aload_n 0, 1, [], .null) := by decide +kernel
theorem w68_15 : Wp d 68 15 [some (.ref a), l1] st h Q = Wp d 68 16 [some (.ref a), l1] (.ref a :: st) h Q := W_go f68_15 rfl
theorem f68_16 : fetch 68 16 = some (.new 16, 3, [0, 1048, 1049, 1003], .null) := by decide +kernel
theorem w68_16 : Wp d 68 16 [l0, l1] st h Q = Wp d 68 19 [l0, l1] (.ref h.1.1 :: st) (hnew h (pdef 0).length (.inr (0, pdef 0))) Q := W_go f68_16 rfl
theorem f68_19 : fetch 68 19 = some (.dup, 1, [], .null) := by decide +kernel
theorem w68_19i : Wp d 68 19 [l0, l1] (.int x :: st) h Q = Wp d 68 20 [l0, l1] (.int x :: .int x :: st) h Q := W_go f68_19 rfl
theorem w68_19 : Wp d 68 19 [l0, l1] (.ref a :: st) h Q = Wp d 68 20 [l0, l1] (.ref a :: .ref a :: st) h Q := W_go f68_19 rfl
theorem f68_20 : fetch 68 20 = some (.invokespecial 18, 3, [0, 1, 0, 1, 1050, 1003, 1052, 1051], .null) := by decide +kernel
theorem w68_20 (hp : psum st ≤ 8) (hb : b ≠ 201) : Wp d 68 20 [l0, l1] ((.ref b) :: st) h Q = Cp d 0 [(.ref b)] h (fun o => cK o (fun w h2 => Wp d 68 23 [l0, l1] (w.toList ++ st) h2 Q) (fun _ _ => False)) := (W_invI (st := st) f68_20 rfl rfl (by simp only [List.length_cons]; omega) rfl rfl hp hb)
theorem f68_23 : fetch 68 23 = some (.putfield 19, 3, [7, 4, 2156, 0], .null) := by decide +kernel
theorem w68_23 : Wp d 68 23 [l0, l1] (v :: .ref a :: st) h Q = pP (h.2 a) 7 4 (ftOf 7 4) v a (fun c => Wp d 68 26 [l0, l1] st (hset h a c) Q) := W_put f68_23 (by rfl)
theorem f68_26 : fetch 68 26 = some (.aload_n 0, 1, [], .null) := by decide +kernel
theorem w68_26 : Wp d 68 26 [some (.ref a), l1] st h Q = Wp d 68 27 [some (.ref a), l1] (.ref a :: st) h Q := W_go f68_26 rfl
theorem f68_27 : fetch 68 27 = some (.new 23, 3, [3, 1142, 1143, 1004], .null) := by decide +kernel
theorem w68_27 : Wp d 68 27 [l0, l1] st h Q = Wp d 68 30 [l0, l1] (.ref h.1.1 :: st) (hnew h (pdef 3).length (.inr (3, pdef 3))) Q := W_go f68_27 rfl
theorem f68_30 : fetch 68 30 = some (.dup, 1, [], .null) := by decide +kernel
theorem w68_30i : Wp d 68 30 [l0, l1] (.int x :: st) h Q = Wp d 68 31 [l0, l1] (.int x :: .int x :: st) h Q := W_go f68_30 rfl
theorem w68_30 : Wp d 68 30 [l0, l1] (.ref a :: st) h Q = Wp d 68 31 [l0, l1] (.ref a :: .ref a :: st) h Q := W_go f68_30 rfl
theorem f68_31 : fetch 68 31 = some (.aload_n 0, 1, [], .null) := by decide +kernel
theorem w68_31 : Wp d 68 31 [some (.ref a), l1] st h Q = Wp d 68 32 [some (.ref a), l1] (.ref a :: st) h Q := W_go f68_31 rfl
theorem f68_32 : fetch 68 32 = some (.getfield 19, 3, [7, 4, 2156, 0], .null) := by decide +kernel
theorem w68_32 : Wp d 68 32 [l0, l1] (.ref a :: st) h Q = gP (h.2 a) 7 4 (fun w => Wp d 68 35 [l0, l1] (w :: st) h Q) := W_get f68_32 rfl
theorem f68_35 : fetch 68 35 = some (.invokespecial 25, 3, [20, 2, 0, 0, 1144, 1004, 1146, 1145], .null) := by decide +kernel
theorem w68_35 (hp : psum st ≤ 8) (hb : b ≠ 201) : Wp d 68 35 [l0, l1] (v1 :: (.ref b) :: st) h Q = Cp d 20 [(.ref b), v1] h (fun o => cK o (fun w h2 => Wp d 68 38 [l0, l1] (w.toList ++ st) h2 Q) (fun _ _ => False)) := (W_invI (st := st) f68_35 rfl rfl (by simp only [List.length_cons]; omega) rfl rfl hp hb)
theorem f68_38 : fetch 68 38 = some (.putfield 28, 3, [7, 1, 2153, 0], .null) := by decide +kernel
theorem w68_38 : Wp d 68 38 [l0, l1] (v :: .ref a :: st) h Q = pP (h.2 a) 7 1 (ftOf 7 1) v a (fun c => Wp d 68 41 [l0, l1] st (hset h a c) Q) := W_put f68_38 (by rfl)
theorem f68_41 : fetch 68 41 = some (.new 16, 3, [0, 1048, 1049, 1003], .null) := by decide +kernel
theorem w68_41 : Wp d 68 41 [l0, l1] st h Q = Wp d 68 44 [l0, l1] (.ref h.1.1 :: st) (hnew h (pdef 0).length (.inr (0, pdef 0))) Q := W_go f68_41 rfl
theorem f68_44 : fetch 68 44 = some (.dup, 1, [], .null) := by decide +kernel
theorem w68_44i : Wp d 68 44 [l0, l1] (.int x :: st) h Q = Wp d 68 45 [l0, l1] (.int x :: .int x :: st) h Q := W_go f68_44 rfl
theorem w68_44 : Wp d 68 44 [l0, l1] (.ref a :: st) h Q = Wp d 68 45 [l0, l1] (.ref a :: .ref a :: st) h Q := W_go f68_44 rfl
theorem f68_45 : fetch 68 45 = some (.invokespecial 18, 3, [0, 1, 0, 1, 1050, 1003, 1052, 1051], .null) := by decide +kernel
theorem w68_45 (hp : psum st ≤ 8) (hb : b ≠ 201) : Wp d 68 45 [l0, l1] ((.ref b) :: st) h Q = Cp d 0 [(.ref b)] h (fun o => cK o (fun w h2 => Wp d 68 48 [l0, l1] (w.toList ++ st) h2 Q) (fun _ _ => False)) := (W_invI (st := st) f68_45 rfl rfl (by simp only [List.length_cons]; omega) rfl rfl hp hb)
theorem f68_48 : fetch 68 48 = some (.astore_n 1, 1, [], .null) := by decide +kernel
theorem w68_48 : Wp d 68 48 [l0, l1] (.ref a :: st) h Q = Wp d 68 49 [kl l0, some (.ref a)] st h Q := (W_st1 (pc' := 49) (k := 1) f68_48 rfl rfl (by simp only [List.length_cons, List.length_nil]; omega)).trans (by rw [pst1_succ]; rfl)
theorem f68_49 : fetch 68 49 = some (.aload_n 0, 1, [], .null) := by decide +kernel
theorem w68_49 : Wp d 68 49 [some (.ref a), l1] st h Q = Wp d 68 50 [some (.ref a), l1] (.ref a :: st) h Q := W_go f68_49 rfl
theorem f68_50 : fetch 68 50 = some (.new 32, 3, [6, 2017, 2018, 1010], .null) := by decide +kernel
theorem w68_50 : Wp d 68 50 [l0, l1] st h Q = Wp d 68 53 [l0, l1] (.ref h.1.1 :: st) (hnew h (pdef 6).length (.inr (6, pdef 6))) Q := W_go f68_50 rfl
theorem f68_53 : fetch 68 53 = some (.dup, 1, [], .null) := by decide +kernel
theorem w68_53i : Wp d 68 53 [l0, l1] (.int x :: st) h Q = Wp d 68 54 [l0, l1] (.int x :: .int x :: st) h Q := W_go f68_53 rfl
theorem w68_53 : Wp d 68 53 [l0, l1] (.ref a :: st) h Q = Wp d 68 54 [l0, l1] (.ref a :: .ref a :: st) h Q := W_go f68_53 rfl
theorem f68_54 : fetch 68 54 = some (.aload_n 1, 1, [], .null) := by decide +kernel
theorem w68_54 : Wp d 68 54 [l0, some (.ref a)] st h Q = Wp d 68 55 [l0, some (.ref a)] (.ref a :: st) h Q := W_go f68_54 rfl
theorem f68_55 : fetch 68 55 = some (.invokespecial 34, 3, [51, 2, 0, 0, 2019, 1010, 2021, 2020], .null) := by decide +kernel
theorem w68_55 (hp : psum st ≤ 8) (hb : b ≠ 201) : Wp d 68 55 [l0, l1] (v1 :: (.ref b) :: st) h Q = Cp d 51 [(.ref b), v1] h (fun o => cK o (fun w h2 => Wp d 68 58 [l0, l1] (w.toList ++ st) h2 Q) (fun _ _ => False)) := (W_invI (st := st) f68_55 rfl rfl (by simp only [List.length_cons]; omega) rfl rfl hp hb)
theorem f68_58 : fetch 68 58 = some (.putfield 35, 3, [7, 2, 2154, 0], .null) := by decide +kernel
theorem w68_58 : Wp d 68 58 [l0, l1] (v :: .ref a :: st) h Q = pP (h.2 a) 7 2 (ftOf 7 2) v a (fun c => Wp d 68 61 [l0, l1] st (hset h a c) Q) := W_put f68_58 (by rfl)
theorem f68_61 : fetch 68 61 = some (.aload_n 0, 1, [], .null) := by decide +kernel
theorem w68_61 : Wp d 68 61 [some (.ref a), l1] st h Q = Wp d 68 62 [some (.ref a), l1] (.ref a :: st) h Q := W_go f68_61 rfl
theorem f68_62 : fetch 68 62 = some (.new 32, 3, [6, 2017, 2018, 1010], .null) := by decide +kernel
theorem w68_62 : Wp d 68 62 [l0, l1] st h Q = Wp d 68 65 [l0, l1] (.ref h.1.1 :: st) (hnew h (pdef 6).length (.inr (6, pdef 6))) Q := W_go f68_62 rfl
theorem f68_65 : fetch 68 65 = some (.dup, 1, [], .null) := by decide +kernel
theorem w68_65i : Wp d 68 65 [l0, l1] (.int x :: st) h Q = Wp d 68 66 [l0, l1] (.int x :: .int x :: st) h Q := W_go f68_65 rfl
theorem w68_65 : Wp d 68 65 [l0, l1] (.ref a :: st) h Q = Wp d 68 66 [l0, l1] (.ref a :: .ref a :: st) h Q := W_go f68_65 rfl
theorem f68_66 : fetch 68 66 = some (.aload_n 1, 1, [], .null) := by decide +kernel
theorem w68_66 : Wp d 68 66 [l0, some (.ref a)] st h Q = Wp d 68 67 [l0, some (.ref a)] (.ref a :: st) h Q := W_go f68_66 rfl
theorem f68_67 : fetch 68 67 = some (.invokespecial 34, 3, [51, 2, 0, 0, 2019, 1010, 2021, 2020], .null) := by decide +kernel
theorem w68_67 (hp : psum st ≤ 8) (hb : b ≠ 201) : Wp d 68 67 [l0, l1] (v1 :: (.ref b) :: st) h Q = Cp d 51 [(.ref b), v1] h (fun o => cK o (fun w h2 => Wp d 68 70 [l0, l1] (w.toList ++ st) h2 Q) (fun _ _ => False)) := (W_invI (st := st) f68_67 rfl rfl (by simp only [List.length_cons]; omega) rfl rfl hp hb)
theorem f68_70 : fetch 68 70 = some (.putfield 39, 3, [7, 3, 2155, 0], .null) := by decide +kernel
theorem w68_70 : Wp d 68 70 [l0, l1] (v :: .ref a :: st) h Q = pP (h.2 a) 7 3 (ftOf 7 3) v a (fun c => Wp d 68 73 [l0, l1] st (hset h a c) Q) := W_put f68_70 (by rfl)
theorem f68_73 : fetch 68 73 = some (.aload_n 0, 1, [], .null) := by decide +kernel
theorem w68_73 : Wp d 68 73 [some (.ref a), l1] st h Q = Wp d 68 74 [some (.ref a), l1] (.ref a :: st) h Q := W_go f68_73 rfl
theorem f68_74 : fetch 68 74 = some (.iconst (-1), 1, [], .null) := by decide +kernel
theorem w68_74 : Wp d 68 74 [l0, l1] st h Q = Wp d 68 75 [l0, l1] (.int (-1 : Int32) :: st) h Q := W_go f68_74 rfl
theorem f68_75 : fetch 68 75 = some (.putfield 42, 3, [7, 5, 2157, 0], .null) := by decide +kernel
theorem w68_75 : Wp d 68 75 [l0, l1] (v :: .ref a :: st) h Q = pP (h.2 a) 7 5 (ftOf 7 5) v a (fun c => Wp d 68 78 [l0, l1] st (hset h a c) Q) := W_put f68_75 (by rfl)
theorem f68_78 : fetch 68 78 = some (.return_, 1, [], .null) := by decide +kernel
theorem w68_78 : Wp d 68 78 [l0, l1] [] h Q = Q (.inl none, h) := W_fin f68_78 rfl
theorem hm69 : mhs 69 = [] := by decide +kernel
theorem hr69 : mret 69 = (some .int) := by decide +kernel
theorem f69_0 : fetch 69 0 = some (.aload_n 0, 1, [], .null) := by decide +kernel
theorem w69_0 : Wp d 69 0 [some (.ref a), l1, l2, l3, l4, l5] st h Q = Wp d 69 1 [some (.ref a), l1, l2, l3, l4, l5] (.ref a :: st) h Q := W_go f69_0 rfl
theorem f69_1 : fetch 69 1 = some (.getfield 12, 3, [7, 0, 2152, 0], .null) := by decide +kernel
theorem w69_1 : Wp d 69 1 [l0, l1, l2, l3, l4, l5] (.ref a :: st) h Q = gP (h.2 a) 7 0 (fun w => Wp d 69 4 [l0, l1, l2, l3, l4, l5] (w :: st) h Q) := W_get f69_1 rfl
theorem f69_4 : fetch 69 4 = some (.getfield 46, 3, [4, 1, 1040, 0], .null) := by decide +kernel
theorem w69_4 : Wp d 69 4 [l0, l1, l2, l3, l4, l5] (.ref a :: st) h Q = gP (h.2 a) 4 1 (fun w => Wp d 69 7 [l0, l1, l2, l3, l4, l5] (w :: st) h Q) := W_get f69_4 rfl
theorem f69_7 : fetch 69 7 = some (.sipush 1580, 3, [], .null) := by decide +kernel
theorem w69_7 : Wp d 69 7 [l0, l1, l2, l3, l4, l5] st h Q = Wp d 69 10 [l0, l1, l2, l3, l4, l5] (.int (1580 : Int32) :: st) h Q := W_go f69_7 rfl
theorem f69_10 : fetch 69 10 = some (.if_icmp .le 13, 3, [], .null) := by decide +kernel
theorem w69_10 : Wp d 69 10 [l0, l1, l2, l3, l4, l5] (.int y :: .int x :: st) h Q = if icond .le x y = true then Wp d 69 23 [l0, l1, l2, l3, l4, l5] st h Q else Wp d 69 13 [l0, l1, l2, l3, l4, l5] st h Q := W_if f69_10 rfl
theorem f69_13 : fetch 69 13 = some (.new 49, 3, [100, 3232, 1019], .null) := by decide +kernel
theorem w69_13 (hp : psum st ≤ 8) : Wp d 69 13 [l0, l1, l2, l3, l4, l5] st h Q = Q (.inr "java/lang/IllegalStateException", hthr h) := W_fin f69_13 (by simp only [pstep, pnewo, List.getD_cons_zero, if_pos hp]; rfl)
theorem f69_16 : fetch 69 16 = some (.dup, 1, [], .null) := by decide +kernel
theorem w69_16i : Wp d 69 16 [l0, l1, l2, l3, l4, l5] (.int x :: st) h Q = Wp d 69 17 [l0, l1, l2, l3, l4, l5] (.int x :: .int x :: st) h Q := W_go f69_16 rfl
theorem w69_16 : Wp d 69 16 [l0, l1, l2, l3, l4, l5] (.ref a :: st) h Q = Wp d 69 17 [l0, l1, l2, l3, l4, l5] (.ref a :: .ref a :: st) h Q := W_go f69_16 rfl
theorem f69_17 : fetch 69 17 = some (.ldc 51, 2, [4033], .ref 3) := by decide +kernel
theorem w69_17 : Wp d 69 17 [l0, l1, l2, l3, l4, l5] st h Q = Wp d 69 19 [l0, l1, l2, l3, l4, l5] ((.ref 3) :: st) h Q := W_go f69_17 rfl
theorem f69_19 : fetch 69 19 = some (.invokespecial 53, 3, [8888, 4034], .null) := by decide +kernel
theorem f69_22 : fetch 69 22 = some (.athrow, 1, [], .null) := by decide +kernel
theorem f69_23 : fetch 69 23 = some (.aload_n 0, 1, [], .null) := by decide +kernel
theorem w69_23 : Wp d 69 23 [some (.ref a), l1, l2, l3, l4, l5] st h Q = Wp d 69 24 [some (.ref a), l1, l2, l3, l4, l5] (.ref a :: st) h Q := W_go f69_23 rfl
theorem f69_24 : fetch 69 24 = some (.getfield 12, 3, [7, 0, 2152, 0], .null) := by decide +kernel
theorem w69_24 : Wp d 69 24 [l0, l1, l2, l3, l4, l5] (.ref a :: st) h Q = gP (h.2 a) 7 0 (fun w => Wp d 69 27 [l0, l1, l2, l3, l4, l5] (w :: st) h Q) := W_get f69_24 rfl
theorem f69_27 : fetch 69 27 = some (.iload_n 1, 1, [], .null) := by decide +kernel
theorem w69_27 : Wp d 69 27 [l0, some (.int x), l2, l3, l4, l5] st h Q = Wp d 69 28 [l0, some (.int x), l2, l3, l4, l5] (.int x :: st) h Q := W_go f69_27 rfl
theorem f69_28 : fetch 69 28 = some (.invokevirtual 56, 3, [38, 2, 5, 0, 4059, 1002, 4062, 4060, 4061], .null) := by decide +kernel
theorem w69_28 (hp : psum st ≤ 8) : Wp d 69 28 [l0, l1, l2, l3, l4, l5] (v1 :: (.ref b) :: st) h Q = rP (h.2 b) 4 (Cp d 38 [(.ref b), v1] h (fun o => cK o (fun w h2 => Wp d 69 31 [l0, l1, l2, l3, l4, l5] (w.toList ++ st) h2 Q) (fun E h2 => Q (.inr E, h2)))) := (W_invV (st := st) f69_28 rfl rfl (by simp only [List.length_cons]; omega) rfl rfl hp).trans (by simp only [hm69, if_true])
theorem f69_31 : fetch 69 31 = some (.aload_n 0, 1, [], .null) := by decide +kernel
theorem w69_31 : Wp d 69 31 [some (.ref a), l1, l2, l3, l4, l5] st h Q = Wp d 69 32 [some (.ref a), l1, l2, l3, l4, l5] (.ref a :: st) h Q := W_go f69_31 rfl
theorem f69_32 : fetch 69 32 = some (.getfield 12, 3, [7, 0, 2152, 0], .null) := by decide +kernel
theorem w69_32 : Wp d 69 32 [l0, l1, l2, l3, l4, l5] (.ref a :: st) h Q = gP (h.2 a) 7 0 (fun w => Wp d 69 35 [l0, l1, l2, l3, l4, l5] (w :: st) h Q) := W_get f69_32 rfl
theorem f69_35 : fetch 69 35 = some (.iload_n 2, 1, [], .null) := by decide +kernel
theorem w69_35 : Wp d 69 35 [l0, l1, some (.int x), l3, l4, l5] st h Q = Wp d 69 36 [l0, l1, some (.int x), l3, l4, l5] (.int x :: st) h Q := W_go f69_35 rfl
theorem f69_36 : fetch 69 36 = some (.invokevirtual 56, 3, [38, 2, 5, 0, 4059, 1002, 4062, 4060, 4061], .null) := by decide +kernel
theorem w69_36 (hp : psum st ≤ 8) : Wp d 69 36 [l0, l1, l2, l3, l4, l5] (v1 :: (.ref b) :: st) h Q = rP (h.2 b) 4 (Cp d 38 [(.ref b), v1] h (fun o => cK o (fun w h2 => Wp d 69 39 [l0, l1, l2, l3, l4, l5] (w.toList ++ st) h2 Q) (fun E h2 => Q (.inr E, h2)))) := (W_invV (st := st) f69_36 rfl rfl (by simp only [List.length_cons]; omega) rfl rfl hp).trans (by simp only [hm69, if_true])
theorem f69_39 : fetch 69 39 = some (.aload_n 0, 1, [], .null) := by decide +kernel
theorem w69_39 : Wp d 69 39 [some (.ref a), l1, l2, l3, l4, l5] st h Q = Wp d 69 40 [some (.ref a), l1, l2, l3, l4, l5] (.ref a :: st) h Q := W_go f69_39 rfl
theorem f69_40 : fetch 69 40 = some (.getfield 12, 3, [7, 0, 2152, 0], .null) := by decide +kernel
theorem w69_40 : Wp d 69 40 [l0, l1, l2, l3, l4, l5] (.ref a :: st) h Q = gP (h.2 a) 7 0 (fun w => Wp d 69 43 [l0, l1, l2, l3, l4, l5] (w :: st) h Q) := W_get f69_40 rfl
theorem f69_43 : fetch 69 43 = some (.iload_n 3, 1, [], .null) := by decide +kernel
theorem w69_43 : Wp d 69 43 [l0, l1, l2, some (.int x), l4, l5] st h Q = Wp d 69 44 [l0, l1, l2, some (.int x), l4, l5] (.int x :: st) h Q := W_go f69_43 rfl
theorem f69_44 : fetch 69 44 = some (.invokevirtual 56, 3, [38, 2, 5, 0, 4059, 1002, 4062, 4060, 4061], .null) := by decide +kernel
theorem w69_44 (hp : psum st ≤ 8) : Wp d 69 44 [l0, l1, l2, l3, l4, l5] (v1 :: (.ref b) :: st) h Q = rP (h.2 b) 4 (Cp d 38 [(.ref b), v1] h (fun o => cK o (fun w h2 => Wp d 69 47 [l0, l1, l2, l3, l4, l5] (w.toList ++ st) h2 Q) (fun E h2 => Q (.inr E, h2)))) := (W_invV (st := st) f69_44 rfl rfl (by simp only [List.length_cons]; omega) rfl rfl hp).trans (by simp only [hm69, if_true])
theorem f69_47 : fetch 69 47 = some (.aload_n 0, 1, [], .null) := by decide +kernel
theorem w69_47 : Wp d 69 47 [some (.ref a), l1, l2, l3, l4, l5] st h Q = Wp d 69 48 [some (.ref a), l1, l2, l3, l4, l5] (.ref a :: st) h Q := W_go f69_47 rfl
theorem f69_48 : fetch 69 48 = some (.getfield 12, 3, [7, 0, 2152, 0], .null) := by decide +kernel
theorem w69_48 : Wp d 69 48 [l0, l1, l2, l3, l4, l5] (.ref a :: st) h Q = gP (h.2 a) 7 0 (fun w => Wp d 69 51 [l0, l1, l2, l3, l4, l5] (w :: st) h Q) := W_get f69_48 rfl
theorem f69_51 : fetch 69 51 = some (.iload 4, 2, [], .null) := by decide +kernel
theorem w69_51 : Wp d 69 51 [l0, l1, l2, l3, some (.int x), l5] st h Q = Wp d 69 53 [l0, l1, l2, l3, some (.int x), l5] (.int x :: st) h Q := W_go f69_51 rfl
theorem f69_53 : fetch 69 53 = some (.invokevirtual 56, 3, [38, 2, 5, 0, 4059, 1002, 4062, 4060, 4061], .null) := by decide +kernel
theorem w69_53 (hp : psum st ≤ 8) : Wp d 69 53 [l0, l1, l2, l3, l4, l5] (v1 :: (.ref b) :: st) h Q = rP (h.2 b) 4 (Cp d 38 [(.ref b), v1] h (fun o => cK o (fun w h2 => Wp d 69 56 [l0, l1, l2, l3, l4, l5] (w.toList ++ st) h2 Q) (fun E h2 => Q (.inr E, h2)))) := (W_invV (st := st) f69_53 rfl rfl (by simp only [List.length_cons]; omega) rfl rfl hp).trans (by simp only [hm69, if_true])
theorem f69_56 : fetch 69 56 = some (.aload_n 0, 1, [], .null) := by decide +kernel
theorem w69_56 : Wp d 69 56 [some (.ref a), l1, l2, l3, l4, l5] st h Q = Wp d 69 57 [some (.ref a), l1, l2, l3, l4, l5] (.ref a :: st) h Q := W_go f69_56 rfl
theorem f69_57 : fetch 69 57 = some (.getfield 12, 3, [7, 0, 2152, 0], .null) := by decide +kernel
theorem w69_57 : Wp d 69 57 [l0, l1, l2, l3, l4, l5] (.ref a :: st) h Q = gP (h.2 a) 7 0 (fun w => Wp d 69 60 [l0, l1, l2, l3, l4, l5] (w :: st) h Q) := W_get f69_57 rfl
theorem f69_60 : fetch 69 60 = some (.iload 5, 2, [], .null) := by decide +kernel
theorem w69_60 : Wp d 69 60 [l0, l1, l2, l3, l4, some (.int x)] st h Q = Wp d 69 62 [l0, l1, l2, l3, l4, some (.int x)] (.int x :: st) h Q := W_go f69_60 rfl
theorem f69_62 : fetch 69 62 = some (.invokevirtual 56, 3, [38, 2, 5, 0, 4059, 1002, 4062, 4060, 4061], .null) := by decide +kernel
theorem w69_62 (hp : psum st ≤ 8) : Wp d 69 62 [l0, l1, l2, l3, l4, l5] (v1 :: (.ref b) :: st) h Q = rP (h.2 b) 4 (Cp d 38 [(.ref b), v1] h (fun o => cK o (fun w h2 => Wp d 69 65 [l0, l1, l2, l3, l4, l5] (w.toList ++ st) h2 Q) (fun E h2 => Q (.inr E, h2)))) := (W_invV (st := st) f69_62 rfl rfl (by simp only [List.length_cons]; omega) rfl rfl hp).trans (by simp only [hm69, if_true])
theorem f69_65 : fetch 69 65 = some (.aload_n 0, 1, [], .null) := by decide +kernel
theorem w69_65 : Wp d 69 65 [some (.ref a), l1, l2, l3, l4, l5] st h Q = Wp d 69 66 [some (.ref a), l1, l2, l3, l4, l5] (.ref a :: st) h Q := W_go f69_65 rfl
theorem f69_66 : fetch 69 66 = some (.getfield 12, 3, [7, 0, 2152, 0], .null) := by decide +kernel
theorem w69_66 : Wp d 69 66 [l0, l1, l2, l3, l4, l5] (.ref a :: st) h Q = gP (h.2 a) 7 0 (fun w => Wp d 69 69 [l0, l1, l2, l3, l4, l5] (w :: st) h Q) := W_get f69_66 rfl
theorem f69_69 : fetch 69 69 = some (.getfield 46, 3, [4, 1, 1040, 0], .null) := by decide +kernel
theorem w69_69 : Wp d 69 69 [l0, l1, l2, l3, l4, l5] (.ref a :: st) h Q = gP (h.2 a) 4 1 (fun w => Wp d 69 72 [l0, l1, l2, l3, l4, l5] (w :: st) h Q) := W_get f69_69 rfl
theorem f69_72 : fetch 69 72 = some (.ireturn, 1, [], .null) := by decide +kernel
theorem w69_72 : Wp d 69 72 [l0, l1, l2, l3, l4, l5] [.int x] h Q = Q (.inl (some (.int x)), h) := W_iret f69_72 hr69
theorem hm70 : mhs 70 = [] := by decide +kernel
theorem hr70 : mret 70 = (some .int) := by decide +kernel
theorem f70_0 : fetch 70 0 = some (.iload_n 1, 1, [], .null) := by decide +kernel
theorem w70_0 : Wp d 70 0 [l0, some (.int x)] st h Q = Wp d 70 1 [l0, some (.int x)] (.int x :: st) h Q := W_go f70_0 rfl
theorem f70_1 : fetch 70 1 = some (.ifCond .lt 14, 3, [], .null) := by decide +kernel
theorem w70_1 : Wp d 70 1 [l0, l1] (.int x :: st) h Q = if icond .lt x 0 = true then Wp d 70 15 [l0, l1] st h Q else Wp d 70 4 [l0, l1] st h Q := W_if f70_1 rfl
theorem f70_4 : fetch 70 4 = some (.iload_n 1, 1, [], .null) := by decide +kernel
theorem w70_4 : Wp d 70 4 [l0, some (.int x)] st h Q = Wp d 70 5 [l0, some (.int x)] (.int x :: st) h Q := W_go f70_4 rfl
theorem f70_5 : fetch 70 5 = some (.aload_n 0, 1, [], .null) := by decide +kernel
theorem w70_5 : Wp d 70 5 [some (.ref a), l1] st h Q = Wp d 70 6 [some (.ref a), l1] (.ref a :: st) h Q := W_go f70_5 rfl
theorem f70_6 : fetch 70 6 = some (.getfield 12, 3, [7, 0, 2152, 0], .null) := by decide +kernel
theorem w70_6 : Wp d 70 6 [l0, l1] (.ref a :: st) h Q = gP (h.2 a) 7 0 (fun w => Wp d 70 9 [l0, l1] (w :: st) h Q) := W_get f70_6 rfl
theorem f70_9 : fetch 70 9 = some (.getfield 46, 3, [4, 1, 1040, 0], .null) := by decide +kernel
theorem w70_9 : Wp d 70 9 [l0, l1] (.ref a :: st) h Q = gP (h.2 a) 4 1 (fun w => Wp d 70 12 [l0, l1] (w :: st) h Q) := W_get f70_9 rfl
theorem f70_12 : fetch 70 12 = some (.if_icmp .le 13, 3, [], .null) := by decide +kernel
theorem w70_12 : Wp d 70 12 [l0, l1] (.int y :: .int x :: st) h Q = if icond .le x y = true then Wp d 70 25 [l0, l1] st h Q else Wp d 70 15 [l0, l1] st h Q := W_if f70_12 rfl
theorem f70_15 : fetch 70 15 = some (.new 60, 3, [101, 4071, 1020], .null) := by decide +kernel
theorem w70_15 (hp : psum st ≤ 8) : Wp d 70 15 [l0, l1] st h Q = Q (.inr "java/lang/IllegalArgumentException", hthr h) := W_fin f70_15 (by simp only [pstep, pnewo, List.getD_cons_zero, if_pos hp]; rfl)
theorem f70_18 : fetch 70 18 = some (.dup, 1, [], .null) := by decide +kernel
theorem w70_18i : Wp d 70 18 [l0, l1] (.int x :: st) h Q = Wp d 70 19 [l0, l1] (.int x :: .int x :: st) h Q := W_go f70_18 rfl
theorem w70_18 : Wp d 70 18 [l0, l1] (.ref a :: st) h Q = Wp d 70 19 [l0, l1] (.ref a :: .ref a :: st) h Q := W_go f70_18 rfl
theorem f70_19 : fetch 70 19 = some (.ldc 62, 2, [4080], .ref 4) := by decide +kernel
theorem w70_19 : Wp d 70 19 [l0, l1] st h Q = Wp d 70 21 [l0, l1] ((.ref 4) :: st) h Q := W_go f70_19 rfl
theorem f70_21 : fetch 70 21 = some (.invokespecial 64, 3, [8888, 4081], .null) := by decide +kernel
theorem f70_24 : fetch 70 24 = some (.athrow, 1, [], .null) := by decide +kernel
theorem f70_25 : fetch 70 25 = some (.aload_n 0, 1, [], .null) := by decide +kernel
theorem w70_25 : Wp d 70 25 [some (.ref a), l1] st h Q = Wp d 70 26 [some (.ref a), l1] (.ref a :: st) h Q := W_go f70_25 rfl
theorem f70_26 : fetch 70 26 = some (.getfield 12, 3, [7, 0, 2152, 0], .null) := by decide +kernel
theorem w70_26 : Wp d 70 26 [l0, l1] (.ref a :: st) h Q = gP (h.2 a) 7 0 (fun w => Wp d 70 29 [l0, l1] (w :: st) h Q) := W_get f70_26 rfl
theorem f70_29 : fetch 70 29 = some (.iload_n 1, 1, [], .null) := by decide +kernel
theorem w70_29 : Wp d 70 29 [l0, some (.int x)] st h Q = Wp d 70 30 [l0, some (.int x)] (.int x :: st) h Q := W_go f70_29 rfl
theorem f70_30 : fetch 70 30 = some (.putfield 46, 3, [4, 1, 1040, 0], .null) := by decide +kernel
theorem w70_30 : Wp d 70 30 [l0, l1] (v :: .ref a :: st) h Q = pP (h.2 a) 4 1 (ftOf 4 1) v a (fun c => Wp d 70 33 [l0, l1] st (hset h a c) Q) := W_put f70_30 (by rfl)
theorem f70_33 : fetch 70 33 = some (.iload_n 1, 1, [], .null) := by decide +kernel
theorem w70_33 : Wp d 70 33 [l0, some (.int x)] st h Q = Wp d 70 34 [l0, some (.int x)] (.int x :: st) h Q := W_go f70_33 rfl
theorem f70_34 : fetch 70 34 = some (.ireturn, 1, [], .null) := by decide +kernel
theorem w70_34 : Wp d 70 34 [l0, l1] [.int x] h Q = Q (.inl (some (.int x)), h) := W_iret f70_34 hr70
theorem hm71 : mhs 71 = [] := by decide +kernel
theorem hr71 : mret 71 = (some .int) := by decide +kernel
theorem f71_0 : fetch 71 0 = some (.aload_n 0, 1, [], .null) := by decide +kernel
theorem w71_0 : Wp d 71 0 [some (.ref a), l1, l2] st h Q = Wp d 71 1 [some (.ref a), l1, l2] (.ref a :: st) h Q := W_go f71_0 rfl
theorem f71_1 : fetch 71 1 = some (.getfield 28, 3, [7, 1, 2153, 0], .null) := by decide +kernel
theorem w71_1 : Wp d 71 1 [l0, l1, l2] (.ref a :: st) h Q = gP (h.2 a) 7 1 (fun w => Wp d 71 4 [l0, l1, l2] (w :: st) h Q) := W_get f71_1 rfl
theorem f71_4 : fetch 71 4 = some (.aload_n 0, 1, [], .null) := by decide +kernel
theorem w71_4 : Wp d 71 4 [some (.ref a), l1, l2] st h Q = Wp d 71 5 [some (.ref a), l1, l2] (.ref a :: st) h Q := W_go f71_4 rfl
theorem f71_5 : fetch 71 5 = some (.getfield 12, 3, [7, 0, 2152, 0], .null) := by decide +kernel
theorem w71_5 : Wp d 71 5 [l0, l1, l2] (.ref a :: st) h Q = gP (h.2 a) 7 0 (fun w => Wp d 71 8 [l0, l1, l2] (w :: st) h Q) := W_get f71_5 rfl
theorem f71_8 : fetch 71 8 = some (.aload_n 0, 1, [], .null) := by decide +kernel
theorem w71_8 : Wp d 71 8 [some (.ref a), l1, l2] st h Q = Wp d 71 9 [some (.ref a), l1, l2] (.ref a :: st) h Q := W_go f71_8 rfl
theorem f71_9 : fetch 71 9 = some (.getfield 19, 3, [7, 4, 2156, 0], .null) := by decide +kernel
theorem w71_9 : Wp d 71 9 [l0, l1, l2] (.ref a :: st) h Q = gP (h.2 a) 7 4 (fun w => Wp d 71 12 [l0, l1, l2] (w :: st) h Q) := W_get f71_9 rfl
theorem f71_12 : fetch 71 12 = some (.invokevirtual 65, 3, [21, 3, 4, 0, 2175, 1004, 2178, 2176, 2177], .null) := by decide +kernel
theorem w71_12 (hp : psum st ≤ 8) : Wp d 71 12 [l0, l1, l2] (v2 :: v1 :: (.ref b) :: st) h Q = rP (h.2 b) 3 (Cp d 21 [(.ref b), v1, v2] h (fun o => cK o (fun w h2 => Wp d 71 15 [l0, l1, l2] (w.toList ++ st) h2 Q) (fun E h2 => Q (.inr E, h2)))) := (W_invV (st := st) f71_12 rfl rfl (by simp only [List.length_cons]; omega) rfl rfl hp).trans (by simp only [hm71, if_true])
theorem f71_15 : fetch 71 15 = some (.istore_n 1, 1, [], .null) := by decide +kernel
theorem w71_15 : Wp d 71 15 [l0, l1, l2] (.int x :: st) h Q = Wp d 71 16 [kl l0, some (.int x), l2] st h Q := (W_st1 (pc' := 16) (k := 1) f71_15 rfl rfl (by simp only [List.length_cons, List.length_nil]; omega)).trans (by rw [pst1_succ]; rfl)
theorem f71_16 : fetch 71 16 = some (.aload_n 0, 1, [], .null) := by decide +kernel
theorem w71_16 : Wp d 71 16 [some (.ref a), l1, l2] st h Q = Wp d 71 17 [some (.ref a), l1, l2] (.ref a :: st) h Q := W_go f71_16 rfl
theorem f71_17 : fetch 71 17 = some (.getfield 12, 3, [7, 0, 2152, 0], .null) := by decide +kernel
theorem w71_17 : Wp d 71 17 [l0, l1, l2] (.ref a :: st) h Q = gP (h.2 a) 7 0 (fun w => Wp d 71 20 [l0, l1, l2] (w :: st) h Q) := W_get f71_17 rfl
theorem f71_20 : fetch 71 20 = some (.iconst 0, 1, [], .null) := by decide +kernel
theorem w71_20 : Wp d 71 20 [l0, l1, l2] st h Q = Wp d 71 21 [l0, l1, l2] (.int (0 : Int32) :: st) h Q := W_go f71_20 rfl
theorem f71_21 : fetch 71 21 = some (.putfield 46, 3, [4, 1, 1040, 0], .null) := by decide +kernel
theorem w71_21 : Wp d 71 21 [l0, l1, l2] (v :: .ref a :: st) h Q = pP (h.2 a) 4 1 (ftOf 4 1) v a (fun c => Wp d 71 24 [l0, l1, l2] st (hset h a c) Q) := W_put f71_21 (by rfl)
theorem f71_24 : fetch 71 24 = some (.aload_n 0, 1, [], .null) := by decide +kernel
theorem w71_24 : Wp d 71 24 [some (.ref a), l1, l2] st h Q = Wp d 71 25 [some (.ref a), l1, l2] (.ref a :: st) h Q := W_go f71_24 rfl
theorem f71_25 : fetch 71 25 = some (.aload_n 0, 1, [], .null) := by decide +kernel
theorem w71_25 : Wp d 71 25 [some (.ref a), l1, l2] st h Q = Wp d 71 26 [some (.ref a), l1, l2] (.ref a :: st) h Q := W_go f71_25 rfl
theorem f71_26 : fetch 71 26 = some (.getfield 28, 3, [7, 1, 2153, 0], .null) := by decide +kernel
theorem w71_26 : Wp d 71 26 [l0, l1, l2] (.ref a :: st) h Q = gP (h.2 a) 7 1 (fun w => Wp d 71 29 [l0, l1, l2] (w :: st) h Q) := W_get f71_26 rfl
theorem f71_29 : fetch 71 29 = some (.getfield 69, 3, [3, 9, 1235, 0], .null) := by decide +kernel
theorem w71_29 : Wp d 71 29 [l0, l1, l2] (.ref a :: st) h Q = gP (h.2 a) 3 9 (fun w => Wp d 71 32 [l0, l1, l2] (w :: st) h Q) := W_get f71_29 rfl
theorem f71_32 : fetch 71 32 = some (.putfield 42, 3, [7, 5, 2157, 0], .null) := by decide +kernel
theorem w71_32 : Wp d 71 32 [l0, l1, l2] (v :: .ref a :: st) h Q = pP (h.2 a) 7 5 (ftOf 7 5) v a (fun c => Wp d 71 35 [l0, l1, l2] st (hset h a c) Q) := W_put f71_32 (by rfl)
theorem f71_35 : fetch 71 35 = some (.iload_n 1, 1, [], .null) := by decide +kernel
theorem w71_35 : Wp d 71 35 [l0, some (.int x), l2] st h Q = Wp d 71 36 [l0, some (.int x), l2] (.int x :: st) h Q := W_go f71_35 rfl
theorem f71_36 : fetch 71 36 = some (.ifCond .ne 27, 3, [], .null) := by decide +kernel
theorem w71_36 : Wp d 71 36 [l0, l1, l2] (.int x :: st) h Q = if icond .ne x 0 = true then Wp d 71 63 [l0, l1, l2] st h Q else Wp d 71 39 [l0, l1, l2] st h Q := W_if f71_36 rfl
theorem f71_39 : fetch 71 39 = some (.aload_n 0, 1, [], .null) := by decide +kernel
theorem w71_39 : Wp d 71 39 [some (.ref a), l1, l2] st h Q = Wp d 71 40 [some (.ref a), l1, l2] (.ref a :: st) h Q := W_go f71_39 rfl
theorem f71_40 : fetch 71 40 = some (.getfield 19, 3, [7, 4, 2156, 0], .null) := by decide +kernel
theorem w71_40 : Wp d 71 40 [l0, l1, l2] (.ref a :: st) h Q = gP (h.2 a) 7 4 (fun w => Wp d 71 43 [l0, l1, l2] (w :: st) h Q) := W_get f71_40 rfl
theorem f71_43 : fetch 71 43 = some (.astore_n 2, 1, [], .null) := by decide +kernel
theorem w71_43 : Wp d 71 43 [l0, l1, l2] (.ref a :: st) h Q = Wp d 71 44 [l0, kl l1, some (.ref a)] st h Q := (W_st1 (pc' := 44) (k := 2) f71_43 rfl rfl (by simp only [List.length_cons, List.length_nil]; omega)).trans (by rw [pst1_succ]; rfl)
theorem f71_44 : fetch 71 44 = some (.aload_n 0, 1, [], .null) := by decide +kernel
theorem w71_44 : Wp d 71 44 [some (.ref a), l1, l2] st h Q = Wp d 71 45 [some (.ref a), l1, l2] (.ref a :: st) h Q := W_go f71_44 rfl
theorem f71_45 : fetch 71 45 = some (.aload_n 0, 1, [], .null) := by decide +kernel
theorem w71_45 : Wp d 71 45 [some (.ref a), l1, l2] st h Q = Wp d 71 46 [some (.ref a), l1, l2] (.ref a :: st) h Q := W_go f71_45 rfl
theorem f71_46 : fetch 71 46 = some (.getfield 35, 3, [7, 2, 2154, 0], .null) := by decide +kernel
theorem w71_46 : Wp d 71 46 [l0, l1, l2] (.ref a :: st) h Q = gP (h.2 a) 7 2 (fun w => Wp d 71 49 [l0, l1, l2] (w :: st) h Q) := W_get f71_46 rfl
theorem f71_49 : fetch 71 49 = some (.getfield 70, 3, [6, 0, 2120, 0], .null) := by decide +kernel
theorem w71_49 : Wp d 71 49 [l0, l1, l2] (.ref a :: st) h Q = gP (h.2 a) 6 0 (fun w => Wp d 71 52 [l0, l1, l2] (w :: st) h Q) := W_get f71_49 rfl
theorem f71_52 : fetch 71 52 = some (.putfield 19, 3, [7, 4, 2156, 0], .null) := by decide +kernel
theorem w71_52 : Wp d 71 52 [l0, l1, l2] (v :: .ref a :: st) h Q = pP (h.2 a) 7 4 (ftOf 7 4) v a (fun c => Wp d 71 55 [l0, l1, l2] st (hset h a c) Q) := W_put f71_52 (by rfl)
theorem f71_55 : fetch 71 55 = some (.aload_n 0, 1, [], .null) := by decide +kernel
theorem w71_55 : Wp d 71 55 [some (.ref a), l1, l2] st h Q = Wp d 71 56 [some (.ref a), l1, l2] (.ref a :: st) h Q := W_go f71_55 rfl
theorem f71_56 : fetch 71 56 = some (.getfield 35, 3, [7, 2, 2154, 0], .null) := by decide +kernel
theorem w71_56 : Wp d 71 56 [l0, l1, l2] (.ref a :: st) h Q = gP (h.2 a) 7 2 (fun w => Wp d 71 59 [l0, l1, l2] (w :: st) h Q) := W_get f71_56 rfl
theorem f71_59 : fetch 71 59 = some (.aload_n 2, 1, [], .null) := by decide +kernel
theorem w71_59 : Wp d 71 59 [l0, l1, some (.ref a)] st h Q = Wp d 71 60 [l0, l1, some (.ref a)] (.ref a :: st) h Q := W_go f71_59 rfl
theorem f71_60 : fetch 71 60 = some (.invokevirtual 73, 3, [52, 2, 7, 0, 3111, 1010, 3114, 3112, 3113], .null) := by decide +kernel
theorem w71_60 (hp : psum st ≤ 8) : Wp d 71 60 [l0, l1, l2] (v1 :: (.ref b) :: st) h Q = rP (h.2 b) 6 (Cp d 52 [(.ref b), v1] h (fun o => cK o (fun w h2 => Wp d 71 63 [l0, l1, l2] (w.toList ++ st) h2 Q) (fun E h2 => Q (.inr E, h2)))) := (W_invV (st := st) f71_60 rfl rfl (by simp only [List.length_cons]; omega) rfl rfl hp).trans (by simp only [hm71, if_true])
theorem f71_63 : fetch 71 63 = some (.iload_n 1, 1, [], .null) := by decide +kernel
theorem w71_63 : Wp d 71 63 [l0, some (.int x), l2] st h Q = Wp d 71 64 [l0, some (.int x), l2] (.int x :: st) h Q := W_go f71_63 rfl
theorem f71_64 : fetch 71 64 = some (.ireturn, 1, [], .null) := by decide +kernel
theorem w71_64 : Wp d 71 64 [l0, l1, l2] [.int x] h Q = Q (.inl (some (.int x)), h) := W_iret f71_64 hr71
theorem hm72 : mhs 72 = [] := by decide +kernel
theorem hr72 : mret 72 = (some .int) := by decide +kernel
theorem f72_0 : fetch 72 0 = some (.aload_n 0, 1, [], .null) := by decide +kernel
theorem w72_0 : Wp d 72 0 [some (.ref a)] st h Q = Wp d 72 1 [some (.ref a)] (.ref a :: st) h Q := W_go f72_0 rfl
theorem f72_1 : fetch 72 1 = some (.getfield 42, 3, [7, 5, 2157, 0], .null) := by decide +kernel
theorem w72_1 : Wp d 72 1 [l0] (.ref a :: st) h Q = gP (h.2 a) 7 5 (fun w => Wp d 72 4 [l0] (w :: st) h Q) := W_get f72_1 rfl
theorem f72_4 : fetch 72 4 = some (.ireturn, 1, [], .null) := by decide +kernel
theorem w72_4 : Wp d 72 4 [l0] [.int x] h Q = Q (.inl (some (.int x)), h) := W_iret f72_4 hr72
theorem hm73 : mhs 73 = [] := by decide +kernel
theorem hr73 : mret 73 = (some .int) := by decide +kernel
theorem f73_0 : fetch 73 0 = some (.iload_n 1, 1, [], .null) := by decide +kernel
theorem w73_0 : Wp d 73 0 [l0, some (.int x), l2] st h Q = Wp d 73 1 [l0, some (.int x), l2] (.int x :: st) h Q := W_go f73_0 rfl
theorem f73_1 : fetch 73 1 = some (.iconst 1, 1, [], .null) := by decide +kernel
theorem w73_1 : Wp d 73 1 [l0, l1, l2] st h Q = Wp d 73 2 [l0, l1, l2] (.int (1 : Int32) :: st) h Q := W_go f73_1 rfl
theorem f73_2 : fetch 73 2 = some (.if_icmp .lt 9, 3, [], .null) := by decide +kernel
theorem w73_2 : Wp d 73 2 [l0, l1, l2] (.int y :: .int x :: st) h Q = if icond .lt x y = true then Wp d 73 11 [l0, l1, l2] st h Q else Wp d 73 5 [l0, l1, l2] st h Q := W_if f73_2 rfl
theorem f73_5 : fetch 73 5 = some (.iload_n 1, 1, [], .null) := by decide +kernel
theorem w73_5 : Wp d 73 5 [l0, some (.int x), l2] st h Q = Wp d 73 6 [l0, some (.int x), l2] (.int x :: st) h Q := W_go f73_5 rfl
theorem f73_6 : fetch 73 6 = some (.bipush 60, 2, [], .null) := by decide +kernel
theorem w73_6 : Wp d 73 6 [l0, l1, l2] st h Q = Wp d 73 8 [l0, l1, l2] (.int (60 : Int32) :: st) h Q := W_go f73_6 rfl
theorem f73_8 : fetch 73 8 = some (.if_icmp .le 13, 3, [], .null) := by decide +kernel
theorem w73_8 : Wp d 73 8 [l0, l1, l2] (.int y :: .int x :: st) h Q = if icond .le x y = true then Wp d 73 21 [l0, l1, l2] st h Q else Wp d 73 11 [l0, l1, l2] st h Q := W_if f73_8 rfl
theorem f73_11 : fetch 73 11 = some (.new 60, 3, [101, 4071, 1020], .null) := by decide +kernel
theorem w73_11 (hp : psum st ≤ 8) : Wp d 73 11 [l0, l1, l2] st h Q = Q (.inr "java/lang/IllegalArgumentException", hthr h) := W_fin f73_11 (by simp only [pstep, pnewo, List.getD_cons_zero, if_pos hp]; rfl)
theorem f73_14 : fetch 73 14 = some (.dup, 1, [], .null) := by decide +kernel
theorem w73_14i : Wp d 73 14 [l0, l1, l2] (.int x :: st) h Q = Wp d 73 15 [l0, l1, l2] (.int x :: .int x :: st) h Q := W_go f73_14 rfl
theorem w73_14 : Wp d 73 14 [l0, l1, l2] (.ref a :: st) h Q = Wp d 73 15 [l0, l1, l2] (.ref a :: .ref a :: st) h Q := W_go f73_14 rfl
theorem f73_15 : fetch 73 15 = some (.ldc 76, 2, [4094], .ref 5) := by decide +kernel
theorem w73_15 : Wp d 73 15 [l0, l1, l2] st h Q = Wp d 73 17 [l0, l1, l2] ((.ref 5) :: st) h Q := W_go f73_15 rfl
theorem f73_17 : fetch 73 17 = some (.invokespecial 64, 3, [8888, 4081], .null) := by decide +kernel
theorem f73_20 : fetch 73 20 = some (.athrow, 1, [], .null) := by decide +kernel
theorem f73_21 : fetch 73 21 = some (.aload_n 0, 1, [], .null) := by decide +kernel
theorem w73_21 : Wp d 73 21 [some (.ref a), l1, l2] st h Q = Wp d 73 22 [some (.ref a), l1, l2] (.ref a :: st) h Q := W_go f73_21 rfl
theorem f73_22 : fetch 73 22 = some (.getfield 35, 3, [7, 2, 2154, 0], .null) := by decide +kernel
theorem w73_22 : Wp d 73 22 [l0, l1, l2] (.ref a :: st) h Q = gP (h.2 a) 7 2 (fun w => Wp d 73 25 [l0, l1, l2] (w :: st) h Q) := W_get f73_22 rfl
theorem f73_25 : fetch 73 25 = some (.getfield 78, 3, [6, 3, 2126, 0], .null) := by decide +kernel
theorem w73_25 : Wp d 73 25 [l0, l1, l2] (.ref a :: st) h Q = gP (h.2 a) 6 3 (fun w => Wp d 73 28 [l0, l1, l2] (w :: st) h Q) := W_get f73_25 rfl
theorem f73_28 : fetch 73 28 = some (.istore_n 2, 1, [], .null) := by decide +kernel
theorem w73_28 : Wp d 73 28 [l0, l1, l2] (.int x :: st) h Q = Wp d 73 29 [l0, kl l1, some (.int x)] st h Q := (W_st1 (pc' := 29) (k := 2) f73_28 rfl rfl (by simp only [List.length_cons, List.length_nil]; omega)).trans (by rw [pst1_succ]; rfl)
theorem f73_29 : fetch 73 29 = some (.iload_n 2, 1, [], .null) := by decide +kernel
theorem w73_29 : Wp d 73 29 [l0, l1, some (.int x)] st h Q = Wp d 73 30 [l0, l1, some (.int x)] (.int x :: st) h Q := W_go f73_29 rfl
theorem f73_30 : fetch 73 30 = some (.iconst 3, 1, [], .null) := by decide +kernel
theorem w73_30 : Wp d 73 30 [l0, l1, l2] st h Q = Wp d 73 31 [l0, l1, l2] (.int (3 : Int32) :: st) h Q := W_go f73_30 rfl
theorem f73_31 : fetch 73 31 = some (.if_icmp .ge 15, 3, [], .null) := by decide +kernel
theorem w73_31 : Wp d 73 31 [l0, l1, l2] (.int y :: .int x :: st) h Q = if icond .ge x y = true then Wp d 73 46 [l0, l1, l2] st h Q else Wp d 73 34 [l0, l1, l2] st h Q := W_if f73_31 rfl
theorem f73_34 : fetch 73 34 = some (.iload_n 2, 1, [], .null) := by decide +kernel
theorem w73_34 : Wp d 73 34 [l0, l1, some (.int x)] st h Q = Wp d 73 35 [l0, l1, some (.int x)] (.int x :: st) h Q := W_go f73_34 rfl
theorem f73_35 : fetch 73 35 = some (.aload_n 0, 1, [], .null) := by decide +kernel
theorem w73_35 : Wp d 73 35 [some (.ref a), l1, l2] st h Q = Wp d 73 36 [some (.ref a), l1, l2] (.ref a :: st) h Q := W_go f73_35 rfl
theorem f73_36 : fetch 73 36 = some (.getfield 35, 3, [7, 2, 2154, 0], .null) := by decide +kernel
theorem w73_36 : Wp d 73 36 [l0, l1, l2] (.ref a :: st) h Q = gP (h.2 a) 7 2 (fun w => Wp d 73 39 [l0, l1, l2] (w :: st) h Q) := W_get f73_36 rfl
theorem f73_39 : fetch 73 39 = some (.getfield 81, 3, [6, 2, 2124, 0], .null) := by decide +kernel
theorem w73_39 : Wp d 73 39 [l0, l1, l2] (.ref a :: st) h Q = gP (h.2 a) 6 2 (fun w => Wp d 73 42 [l0, l1, l2] (w :: st) h Q) := W_get f73_39 rfl
theorem f73_42 : fetch 73 42 = some (.arraylength, 1, [], .null) := by decide +kernel
theorem w73_42 : Wp d 73 42 [l0, l1, l2] (.ref a :: st) h Q = nP (h.2 a) (fun w => Wp d 73 43 [l0, l1, l2] (.int w :: st) h Q) := W_len f73_42 rfl
theorem f73_43 : fetch 73 43 = some (.if_icmp .lt 13, 3, [], .null) := by decide +kernel
theorem w73_43 : Wp d 73 43 [l0, l1, l2] (.int y :: .int x :: st) h Q = if icond .lt x y = true then Wp d 73 56 [l0, l1, l2] st h Q else Wp d 73 46 [l0, l1, l2] st h Q := W_if f73_43 rfl
theorem f73_46 : fetch 73 46 = some (.new 49, 3, [100, 3232, 1019], .null) := by decide +kernel
theorem w73_46 (hp : psum st ≤ 8) : Wp d 73 46 [l0, l1, l2] st h Q = Q (.inr "java/lang/IllegalStateException", hthr h) := W_fin f73_46 (by simp only [pstep, pnewo, List.getD_cons_zero, if_pos hp]; rfl)
theorem f73_49 : fetch 73 49 = some (.dup, 1, [], .null) := by decide +kernel
theorem w73_49i : Wp d 73 49 [l0, l1, l2] (.int x :: st) h Q = Wp d 73 50 [l0, l1, l2] (.int x :: .int x :: st) h Q := W_go f73_49 rfl
theorem w73_49 : Wp d 73 49 [l0, l1, l2] (.ref a :: st) h Q = Wp d 73 50 [l0, l1, l2] (.ref a :: .ref a :: st) h Q := W_go f73_49 rfl
theorem f73_50 : fetch 73 50 = some (.ldc 85, 2, [4095], .ref 6) := by decide +kernel
theorem w73_50 : Wp d 73 50 [l0, l1, l2] st h Q = Wp d 73 52 [l0, l1, l2] ((.ref 6) :: st) h Q := W_go f73_50 rfl
theorem f73_52 : fetch 73 52 = some (.invokespecial 53, 3, [8888, 4034], .null) := by decide +kernel
theorem f73_55 : fetch 73 55 = some (.athrow, 1, [], .null) := by decide +kernel
theorem f73_56 : fetch 73 56 = some (.aload_n 0, 1, [], .null) := by decide +kernel
theorem w73_56 : Wp d 73 56 [some (.ref a), l1, l2] st h Q = Wp d 73 57 [some (.ref a), l1, l2] (.ref a :: st) h Q := W_go f73_56 rfl
theorem f73_57 : fetch 73 57 = some (.getfield 35, 3, [7, 2, 2154, 0], .null) := by decide +kernel
theorem w73_57 : Wp d 73 57 [l0, l1, l2] (.ref a :: st) h Q = gP (h.2 a) 7 2 (fun w => Wp d 73 60 [l0, l1, l2] (w :: st) h Q) := W_get f73_57 rfl
theorem f73_60 : fetch 73 60 = some (.getfield 81, 3, [6, 2, 2124, 0], .null) := by decide +kernel
theorem w73_60 : Wp d 73 60 [l0, l1, l2] (.ref a :: st) h Q = gP (h.2 a) 6 2 (fun w => Wp d 73 63 [l0, l1, l2] (w :: st) h Q) := W_get f73_60 rfl
theorem f73_63 : fetch 73 63 = some (.iload_n 2, 1, [], .null) := by decide +kernel
theorem w73_63 : Wp d 73 63 [l0, l1, some (.int x)] st h Q = Wp d 73 64 [l0, l1, some (.int x)] (.int x :: st) h Q := W_go f73_63 rfl
theorem f73_64 : fetch 73 64 = some (.aaload, 1, [], .null) := by decide +kernel
theorem w73_64 : Wp d 73 64 [l0, l1, l2] (.int x :: .ref a :: st) h Q = qP (h.2 a) x (fun w => Wp d 73 65 [l0, l1, l2] (w :: st) h Q) := W_qld f73_64 rfl
theorem f73_65 : fetch 73 65 = some (.iload_n 1, 1, [], .null) := by decide +kernel
theorem w73_65 : Wp d 73 65 [l0, some (.int x), l2] st h Q = Wp d 73 66 [l0, some (.int x), l2] (.int x :: st) h Q := W_go f73_65 rfl
theorem f73_66 : fetch 73 66 = some (.invokevirtual 87, 3, [9, 2, 3, 0, 4096, 1012, 3125, 3123, 3124], .null) := by decide +kernel
theorem w73_66 (hp : psum st ≤ 8) : Wp d 73 66 [l0, l1, l2] (v1 :: (.ref b) :: st) h Q = rP (h.2 b) 2 (Cp d 9 [(.ref b), v1] h (fun o => cK o (fun w h2 => Wp d 73 69 [l0, l1, l2] (w.toList ++ st) h2 Q) (fun E h2 => Q (.inr E, h2)))) := (W_invV (st := st) f73_66 rfl rfl (by simp only [List.length_cons]; omega) rfl rfl hp).trans (by simp only [hm73, if_true])
theorem f73_69 : fetch 73 69 = some (.aload_n 0, 1, [], .null) := by decide +kernel
theorem w73_69 : Wp d 73 69 [some (.ref a), l1, l2] st h Q = Wp d 73 70 [some (.ref a), l1, l2] (.ref a :: st) h Q := W_go f73_69 rfl
theorem f73_70 : fetch 73 70 = some (.getfield 35, 3, [7, 2, 2154, 0], .null) := by decide +kernel
theorem w73_70 : Wp d 73 70 [l0, l1, l2] (.ref a :: st) h Q = gP (h.2 a) 7 2 (fun w => Wp d 73 73 [l0, l1, l2] (w :: st) h Q) := W_get f73_70 rfl
theorem f73_73 : fetch 73 73 = some (.iload_n 2, 1, [], .null) := by decide +kernel
theorem w73_73 : Wp d 73 73 [l0, l1, some (.int x)] st h Q = Wp d 73 74 [l0, l1, some (.int x)] (.int x :: st) h Q := W_go f73_73 rfl
theorem f73_74 : fetch 73 74 = some (.iconst 1, 1, [], .null) := by decide +kernel
theorem w73_74 : Wp d 73 74 [l0, l1, l2] st h Q = Wp d 73 75 [l0, l1, l2] (.int (1 : Int32) :: st) h Q := W_go f73_74 rfl
theorem f73_75 : fetch 73 75 = some (.iadd, 1, [], .null) := by decide +kernel
theorem w73_75 : Wp d 73 75 [l0, l1, l2] (.int y :: .int x :: st) h Q = Wp d 73 76 [l0, l1, l2] (.int (x + y) :: st) h Q := W_go f73_75 rfl
theorem f73_76 : fetch 73 76 = some (.putfield 78, 3, [6, 3, 2126, 0], .null) := by decide +kernel
theorem w73_76 : Wp d 73 76 [l0, l1, l2] (v :: .ref a :: st) h Q = pP (h.2 a) 6 3 (ftOf 6 3) v a (fun c => Wp d 73 79 [l0, l1, l2] st (hset h a c) Q) := W_put f73_76 (by rfl)
theorem f73_79 : fetch 73 79 = some (.iload_n 2, 1, [], .null) := by decide +kernel
theorem w73_79 : Wp d 73 79 [l0, l1, some (.int x)] st h Q = Wp d 73 80 [l0, l1, some (.int x)] (.int x :: st) h Q := W_go f73_79 rfl
theorem f73_80 : fetch 73 80 = some (.ireturn, 1, [], .null) := by decide +kernel
theorem w73_80 : Wp d 73 80 [l0, l1, l2] [.int x] h Q = Q (.inl (some (.int x)), h) := W_iret f73_80 hr73
theorem hm74 : mhs 74 = [] := by decide +kernel
theorem hr74 : mret 74 = (some .int) := by decide +kernel
theorem f74_0 : fetch 74 0 = some (.aload_n 0, 1, [], .null) := by decide +kernel
theorem w74_0 : Wp d 74 0 [some (.ref a), l1, l2, l3, l4] st h Q = Wp d 74 1 [some (.ref a), l1, l2, l3, l4] (.ref a :: st) h Q := W_go f74_0 rfl
theorem f74_1 : fetch 74 1 = some (.iload_n 1, 1, [], .null) := by decide +kernel
theorem w74_1 : Wp d 74 1 [l0, some (.int x), l2, l3, l4] st h Q = Wp d 74 2 [l0, some (.int x), l2, l3, l4] (.int x :: st) h Q := W_go f74_1 rfl
theorem f74_2 : fetch 74 2 = some (.invokevirtual 91, 3, [113, 2, 8, 0, 4105, 1001, 4108, 4107, 21], .null) := by decide +kernel
theorem w74_2 (hp : psum st ≤ 8) : Wp d 74 2 [l0, l1, l2, l3, l4] (v1 :: (.ref b) :: st) h Q = rP (h.2 b) 7 (Cp d 113 [(.ref b), v1] h (fun o => cK o (fun w h2 => Wp d 74 5 [l0, l1, l2, l3, l4] (w.toList ++ st) h2 Q) (fun E h2 => Q (.inr E, h2)))) := (W_invV (st := st) f74_2 rfl rfl (by simp only [List.length_cons]; omega) rfl rfl hp).trans (by simp only [hm74, if_true])
theorem f74_5 : fetch 74 5 = some (.astore_n 3, 1, [], .null) := by decide +kernel
theorem w74_5 : Wp d 74 5 [l0, l1, l2, l3, l4] (.ref a :: st) h Q = Wp d 74 6 [l0, l1, kl l2, some (.ref a), l4] st h Q := (W_st1 (pc' := 6) (k := 3) f74_5 rfl rfl (by simp only [List.length_cons, List.length_nil]; omega)).trans (by rw [pst1_succ]; rfl)
theorem f74_6 : fetch 74 6 = some (.iload_n 2, 1, [], .null) := by decide +kernel
theorem w74_6 : Wp d 74 6 [l0, l1, some (.int x), l3, l4] st h Q = Wp d 74 7 [l0, l1, some (.int x), l3, l4] (.int x :: st) h Q := W_go f74_6 rfl
theorem f74_7 : fetch 74 7 = some (.ifCond .lt 17, 3, [], .null) := by decide +kernel
theorem w74_7 : Wp d 74 7 [l0, l1, l2, l3, l4] (.int x :: st) h Q = if icond .lt x 0 = true then Wp d 74 24 [l0, l1, l2, l3, l4] st h Q else Wp d 74 10 [l0, l1, l2, l3, l4] st h Q := W_if f74_7 rfl
theorem f74_10 : fetch 74 10 = some (.iload_n 2, 1, [], .null) := by decide +kernel
theorem w74_10 : Wp d 74 10 [l0, l1, some (.int x), l3, l4] st h Q = Wp d 74 11 [l0, l1, some (.int x), l3, l4] (.int x :: st) h Q := W_go f74_10 rfl
theorem f74_11 : fetch 74 11 = some (.aload_n 0, 1, [], .null) := by decide +kernel
theorem w74_11 : Wp d 74 11 [some (.ref a), l1, l2, l3, l4] st h Q = Wp d 74 12 [some (.ref a), l1, l2, l3, l4] (.ref a :: st) h Q := W_go f74_11 rfl
theorem f74_12 : fetch 74 12 = some (.getfield 35, 3, [7, 2, 2154, 0], .null) := by decide +kernel
theorem w74_12 : Wp d 74 12 [l0, l1, l2, l3, l4] (.ref a :: st) h Q = gP (h.2 a) 7 2 (fun w => Wp d 74 15 [l0, l1, l2, l3, l4] (w :: st) h Q) := W_get f74_12 rfl
theorem f74_15 : fetch 74 15 = some (.getfield 70, 3, [6, 0, 2120, 0], .null) := by decide +kernel
theorem w74_15 : Wp d 74 15 [l0, l1, l2, l3, l4] (.ref a :: st) h Q = gP (h.2 a) 6 0 (fun w => Wp d 74 18 [l0, l1, l2, l3, l4] (w :: st) h Q) := W_get f74_15 rfl
theorem f74_18 : fetch 74 18 = some (.getfield 95, 3, [0, 1, 1060, 0], .null) := by decide +kernel
theorem w74_18 : Wp d 74 18 [l0, l1, l2, l3, l4] (.ref a :: st) h Q = gP (h.2 a) 0 1 (fun w => Wp d 74 21 [l0, l1, l2, l3, l4] (w :: st) h Q) := W_get f74_18 rfl
theorem f74_21 : fetch 74 21 = some (.if_icmp .lt 13, 3, [], .null) := by decide +kernel
theorem w74_21 : Wp d 74 21 [l0, l1, l2, l3, l4] (.int y :: .int x :: st) h Q = if icond .lt x y = true then Wp d 74 34 [l0, l1, l2, l3, l4] st h Q else Wp d 74 24 [l0, l1, l2, l3, l4] st h Q := W_if f74_21 rfl
theorem f74_24 : fetch 74 24 = some (.new 98, 3, [102, 4109, 1023], .null) := by decide +kernel
theorem w74_24 (hp : psum st ≤ 8) : Wp d 74 24 [l0, l1, l2, l3, l4] st h Q = Q (.inr "java/lang/IndexOutOfBoundsException", hthr h) := W_fin f74_24 (by simp only [pstep, pnewo, List.getD_cons_zero, if_pos hp]; rfl)
theorem f74_27 : fetch 74 27 = some (.dup, 1, [], .null) := by decide +kernel
theorem w74_27i : Wp d 74 27 [l0, l1, l2, l3, l4] (.int x :: st) h Q = Wp d 74 28 [l0, l1, l2, l3, l4] (.int x :: .int x :: st) h Q := W_go f74_27 rfl
theorem w74_27 : Wp d 74 27 [l0, l1, l2, l3, l4] (.ref a :: st) h Q = Wp d 74 28 [l0, l1, l2, l3, l4] (.ref a :: .ref a :: st) h Q := W_go f74_27 rfl
theorem f74_28 : fetch 74 28 = some (.ldc 100, 2, [4125], .ref 8) := by decide +kernel
theorem w74_28 : Wp d 74 28 [l0, l1, l2, l3, l4] st h Q = Wp d 74 30 [l0, l1, l2, l3, l4] ((.ref 8) :: st) h Q := W_go f74_28 rfl
theorem f74_30 : fetch 74 30 = some (.invokespecial 102, 3, [8888, 4119], .null) := by decide +kernel
theorem f74_33 : fetch 74 33 = some (.athrow, 1, [], .null) := by decide +kernel
theorem f74_34 : fetch 74 34 = some (.aload_n 3, 1, [], .null) := by decide +kernel
theorem w74_34 : Wp d 74 34 [l0, l1, l2, some (.ref a), l4] st h Q = Wp d 74 35 [l0, l1, l2, some (.ref a), l4] (.ref a :: st) h Q := W_go f74_34 rfl
theorem f74_35 : fetch 74 35 = some (.getfield 103, 3, [2, 3, 2080, 0], .null) := by decide +kernel
theorem w74_35 : Wp d 74 35 [l0, l1, l2, l3, l4] (.ref a :: st) h Q = gP (h.2 a) 2 3 (fun w => Wp d 74 38 [l0, l1, l2, l3, l4] (w :: st) h Q) := W_get f74_35 rfl
theorem f74_38 : fetch 74 38 = some (.istore 4, 2, [], .null) := by decide +kernel
theorem w74_38 : Wp d 74 38 [l0, l1, l2, l3, l4] (.int x :: st) h Q = Wp d 74 40 [l0, l1, l2, kl l3, some (.int x)] st h Q := (W_st1 (pc' := 40) (k := 4) f74_38 rfl rfl (by simp only [List.length_cons, List.length_nil]; omega)).trans (by rw [pst1_succ]; rfl)
theorem f74_40 : fetch 74 40 = some (.aload_n 3, 1, [], .null) := by decide +kernel
theorem w74_40 : Wp d 74 40 [l0, l1, l2, some (.ref a), l4] st h Q = Wp d 74 41 [l0, l1, l2, some (.ref a), l4] (.ref a :: st) h Q := W_go f74_40 rfl
theorem f74_41 : fetch 74 41 = some (.aload_n 0, 1, [], .null) := by decide +kernel
theorem w74_41 : Wp d 74 41 [some (.ref a), l1, l2, l3, l4] st h Q = Wp d 74 42 [some (.ref a), l1, l2, l3, l4] (.ref a :: st) h Q := W_go f74_41 rfl
theorem f74_42 : fetch 74 42 = some (.getfield 35, 3, [7, 2, 2154, 0], .null) := by decide +kernel
theorem w74_42 : Wp d 74 42 [l0, l1, l2, l3, l4] (.ref a :: st) h Q = gP (h.2 a) 7 2 (fun w => Wp d 74 45 [l0, l1, l2, l3, l4] (w :: st) h Q) := W_get f74_42 rfl
theorem f74_45 : fetch 74 45 = some (.getfield 70, 3, [6, 0, 2120, 0], .null) := by decide +kernel
theorem w74_45 : Wp d 74 45 [l0, l1, l2, l3, l4] (.ref a :: st) h Q = gP (h.2 a) 6 0 (fun w => Wp d 74 48 [l0, l1, l2, l3, l4] (w :: st) h Q) := W_get f74_45 rfl
theorem f74_48 : fetch 74 48 = some (.iload_n 2, 1, [], .null) := by decide +kernel
theorem w74_48 : Wp d 74 48 [l0, l1, some (.int x), l3, l4] st h Q = Wp d 74 49 [l0, l1, some (.int x), l3, l4] (.int x :: st) h Q := W_go f74_48 rfl
theorem f74_49 : fetch 74 49 = some (.invokevirtual 106, 3, [11, 3, 3, 0, 4126, 1012, 4129, 4127, 4128], .null) := by decide +kernel
theorem w74_49 (hp : psum st ≤ 8) : Wp d 74 49 [l0, l1, l2, l3, l4] (v2 :: v1 :: (.ref b) :: st) h Q = rP (h.2 b) 2 (Cp d 11 [(.ref b), v1, v2] h (fun o => cK o (fun w h2 => Wp d 74 52 [l0, l1, l2, l3, l4] (w.toList ++ st) h2 Q) (fun E h2 => Q (.inr E, h2)))) := (W_invV (st := st) f74_49 rfl rfl (by simp only [List.length_cons]; omega) rfl rfl hp).trans (by simp only [hm74, if_true])
theorem f74_52 : fetch 74 52 = some (.iload 4, 2, [], .null) := by decide +kernel
theorem w74_52 : Wp d 74 52 [l0, l1, l2, l3, some (.int x)] st h Q = Wp d 74 54 [l0, l1, l2, l3, some (.int x)] (.int x :: st) h Q := W_go f74_52 rfl
theorem f74_54 : fetch 74 54 = some (.ireturn, 1, [], .null) := by decide +kernel
theorem w74_54 : Wp d 74 54 [l0, l1, l2, l3, l4] [.int x] h Q = Q (.inl (some (.int x)), h) := W_iret f74_54 hr74
theorem hm75 : mhs 75 = [] := by decide +kernel
theorem hr75 : mret 75 = (some .boolean) := by decide +kernel
theorem f75_0 : fetch 75 0 = some (.aload_n 0, 1, [], .null) := by decide +kernel
theorem w75_0 : Wp d 75 0 [some (.ref a), l1, l2] st h Q = Wp d 75 1 [some (.ref a), l1, l2] (.ref a :: st) h Q := W_go f75_0 rfl
theorem f75_1 : fetch 75 1 = some (.getfield 35, 3, [7, 2, 2154, 0], .null) := by decide +kernel
theorem w75_1 : Wp d 75 1 [l0, l1, l2] (.ref a :: st) h Q = gP (h.2 a) 7 2 (fun w => Wp d 75 4 [l0, l1, l2] (w :: st) h Q) := W_get f75_1 rfl
theorem f75_4 : fetch 75 4 = some (.getfield 110, 3, [6, 7, 2134, 0], .null) := by decide +kernel
theorem w75_4 : Wp d 75 4 [l0, l1, l2] (.ref a :: st) h Q = gP (h.2 a) 6 7 (fun w => Wp d 75 7 [l0, l1, l2] (w :: st) h Q) := W_get f75_4 rfl
theorem f75_7 : fetch 75 7 = some (.istore_n 2, 1, [], .null) := by decide +kernel
theorem w75_7 : Wp d 75 7 [l0, l1, l2] (.int x :: st) h Q = Wp d 75 8 [l0, kl l1, some (.int x)] st h Q := (W_st1 (pc' := 8) (k := 2) f75_7 rfl rfl (by simp only [List.length_cons, List.length_nil]; omega)).trans (by rw [pst1_succ]; rfl)
theorem f75_8 : fetch 75 8 = some (.aload_n 0, 1, [], .null) := by decide +kernel
theorem w75_8 : Wp d 75 8 [some (.ref a), l1, l2] st h Q = Wp d 75 9 [some (.ref a), l1, l2] (.ref a :: st) h Q := W_go f75_8 rfl
theorem f75_9 : fetch 75 9 = some (.getfield 35, 3, [7, 2, 2154, 0], .null) := by decide +kernel
theorem w75_9 : Wp d 75 9 [l0, l1, l2] (.ref a :: st) h Q = gP (h.2 a) 7 2 (fun w => Wp d 75 12 [l0, l1, l2] (w :: st) h Q) := W_get f75_9 rfl
theorem f75_12 : fetch 75 12 = some (.iload_n 1, 1, [], .null) := by decide +kernel
theorem w75_12 : Wp d 75 12 [l0, some (.int x), l2] st h Q = Wp d 75 13 [l0, some (.int x), l2] (.int x :: st) h Q := W_go f75_12 rfl
theorem f75_13 : fetch 75 13 = some (.putfield 110, 3, [6, 7, 2134, 0], .null) := by decide +kernel
theorem w75_13 : Wp d 75 13 [l0, l1, l2] (v :: .ref a :: st) h Q = pP (h.2 a) 6 7 (ftOf 6 7) v a (fun c => Wp d 75 16 [l0, l1, l2] st (hset h a c) Q) := W_put f75_13 (by rfl)
theorem f75_16 : fetch 75 16 = some (.iload_n 2, 1, [], .null) := by decide +kernel
theorem w75_16 : Wp d 75 16 [l0, l1, some (.int x)] st h Q = Wp d 75 17 [l0, l1, some (.int x)] (.int x :: st) h Q := W_go f75_16 rfl
theorem f75_17 : fetch 75 17 = some (.ireturn, 1, [], .null) := by decide +kernel
theorem w75_17 : Wp d 75 17 [l0, l1, l2] [.int x] h Q = (if narrow .boolean (.int x) = .int x then Q (.inl (some (.int x)), h) else False) := W_zret f75_17 hr75
theorem hm76 : mhs 76 = [] := by decide +kernel
theorem hr76 : mret 76 = (some .boolean) := by decide +kernel
theorem f76_0 : fetch 76 0 = some (.aload_n 0, 1, [], .null) := by decide +kernel
theorem w76_0 : Wp d 76 0 [some (.ref a), l1, l2] st h Q = Wp d 76 1 [some (.ref a), l1, l2] (.ref a :: st) h Q := W_go f76_0 rfl
theorem f76_1 : fetch 76 1 = some (.iload_n 1, 1, [], .null) := by decide +kernel
theorem w76_1 : Wp d 76 1 [l0, some (.int x), l2] st h Q = Wp d 76 2 [l0, some (.int x), l2] (.int x :: st) h Q := W_go f76_1 rfl
theorem f76_2 : fetch 76 2 = some (.invokevirtual 114, 3, [112, 2, 8, 0, 4142, 1001, 4145, 4144, 22], .null) := by decide +kernel
theorem w76_2 (hp : psum st ≤ 8) : Wp d 76 2 [l0, l1, l2] (v1 :: (.ref b) :: st) h Q = rP (h.2 b) 7 (Cp d 112 [(.ref b), v1] h (fun o => cK o (fun w h2 => Wp d 76 5 [l0, l1, l2] (w.toList ++ st) h2 Q) (fun E h2 => Q (.inr E, h2)))) := (W_invV (st := st) f76_2 rfl rfl (by simp only [List.length_cons]; omega) rfl rfl hp).trans (by simp only [hm76, if_true])
theorem f76_5 : fetch 76 5 = some (.astore_n 2, 1, [], .null) := by decide +kernel
theorem w76_5 : Wp d 76 5 [l0, l1, l2] (.ref a :: st) h Q = Wp d 76 6 [l0, kl l1, some (.ref a)] st h Q := (W_st1 (pc' := 6) (k := 2) f76_5 rfl rfl (by simp only [List.length_cons, List.length_nil]; omega)).trans (by rw [pst1_succ]; rfl)
theorem f76_6 : fetch 76 6 = some (.aload_n 2, 1, [], .null) := by decide +kernel
theorem w76_6 : Wp d 76 6 [l0, l1, some (.ref a)] st h Q = Wp d 76 7 [l0, l1, some (.ref a)] (.ref a :: st) h Q := W_go f76_6 rfl
theorem f76_7 : fetch 76 7 = some (.invokevirtual 118, 3, [5, 1, 2, 0, 4147, 1011, 4150, 4148, 4149], .null) := by decide +kernel
theorem w76_7 (hp : psum st ≤ 8) : Wp d 76 7 [l0, l1, l2] ((.ref b) :: st) h Q = rP (h.2 b) 1 (Cp d 5 [(.ref b)] h (fun o => cK o (fun w h2 => Wp d 76 10 [l0, l1, l2] (w.toList ++ st) h2 Q) (fun E h2 => Q (.inr E, h2)))) := (W_invV (st := st) f76_7 rfl rfl (by simp only [List.length_cons]; omega) rfl rfl hp).trans (by simp only [hm76, if_true])
theorem f76_10 : fetch 76 10 = some (.aload_n 2, 1, [], .null) := by decide +kernel
theorem w76_10 : Wp d 76 10 [l0, l1, some (.ref a)] st h Q = Wp d 76 11 [l0, l1, some (.ref a)] (.ref a :: st) h Q := W_go f76_10 rfl
theorem f76_11 : fetch 76 11 = some (.getfield 123, 3, [1, 6, 2050, 0], .null) := by decide +kernel
theorem w76_11 : Wp d 76 11 [l0, l1, l2] (.ref a :: st) h Q = gP (h.2 a) 1 6 (fun w => Wp d 76 14 [l0, l1, l2] (w :: st) h Q) := W_get f76_11 rfl
theorem f76_14 : fetch 76 14 = some (.ireturn, 1, [], .null) := by decide +kernel
theorem w76_14 : Wp d 76 14 [l0, l1, l2] [.int x] h Q = (if narrow .boolean (.int x) = .int x then Q (.inl (some (.int x)), h) else False) := W_zret f76_14 hr76
theorem hm77 : mhs 77 = [] := by decide +kernel
theorem hr77 : mret 77 = (some .boolean) := by decide +kernel
theorem f77_0 : fetch 77 0 = some (.aload_n 0, 1, [], .null) := by decide +kernel
theorem w77_0 : Wp d 77 0 [some (.ref a), l1, l2, l3] st h Q = Wp d 77 1 [some (.ref a), l1, l2, l3] (.ref a :: st) h Q := W_go f77_0 rfl
theorem f77_1 : fetch 77 1 = some (.iload_n 1, 1, [], .null) := by decide +kernel
theorem w77_1 : Wp d 77 1 [l0, some (.int x), l2, l3] st h Q = Wp d 77 2 [l0, some (.int x), l2, l3] (.int x :: st) h Q := W_go f77_1 rfl
theorem f77_2 : fetch 77 2 = some (.invokevirtual 114, 3, [112, 2, 8, 0, 4142, 1001, 4145, 4144, 22], .null) := by decide +kernel
theorem w77_2 (hp : psum st ≤ 8) : Wp d 77 2 [l0, l1, l2, l3] (v1 :: (.ref b) :: st) h Q = rP (h.2 b) 7 (Cp d 112 [(.ref b), v1] h (fun o => cK o (fun w h2 => Wp d 77 5 [l0, l1, l2, l3] (w.toList ++ st) h2 Q) (fun E h2 => Q (.inr E, h2)))) := (W_invV (st := st) f77_2 rfl rfl (by simp only [List.length_cons]; omega) rfl rfl hp).trans (by simp only [hm77, if_true])
theorem f77_5 : fetch 77 5 = some (.astore_n 2, 1, [], .null) := by decide +kernel
theorem w77_5 : Wp d 77 5 [l0, l1, l2, l3] (.ref a :: st) h Q = Wp d 77 6 [l0, kl l1, some (.ref a), l3] st h Q := (W_st1 (pc' := 6) (k := 2) f77_5 rfl rfl (by simp only [List.length_cons, List.length_nil]; omega)).trans (by rw [pst1_succ]; rfl)
theorem f77_6 : fetch 77 6 = some (.aload_n 2, 1, [], .null) := by decide +kernel
theorem w77_6 : Wp d 77 6 [l0, l1, some (.ref a), l3] st h Q = Wp d 77 7 [l0, l1, some (.ref a), l3] (.ref a :: st) h Q := W_go f77_6 rfl
theorem f77_7 : fetch 77 7 = some (.getfield 123, 3, [1, 6, 2050, 0], .null) := by decide +kernel
theorem w77_7 : Wp d 77 7 [l0, l1, l2, l3] (.ref a :: st) h Q = gP (h.2 a) 1 6 (fun w => Wp d 77 10 [l0, l1, l2, l3] (w :: st) h Q) := W_get f77_7 rfl
theorem f77_10 : fetch 77 10 = some (.istore_n 3, 1, [], .null) := by decide +kernel
theorem w77_10 : Wp d 77 10 [l0, l1, l2, l3] (.int x :: st) h Q = Wp d 77 11 [l0, l1, kl l2, some (.int x)] st h Q := (W_st1 (pc' := 11) (k := 3) f77_10 rfl rfl (by simp only [List.length_cons, List.length_nil]; omega)).trans (by rw [pst1_succ]; rfl)
theorem f77_11 : fetch 77 11 = some (.aload_n 2, 1, [], .null) := by decide +kernel
theorem w77_11 : Wp d 77 11 [l0, l1, some (.ref a), l3] st h Q = Wp d 77 12 [l0, l1, some (.ref a), l3] (.ref a :: st) h Q := W_go f77_11 rfl
theorem f77_12 : fetch 77 12 = some (.iconst 0, 1, [], .null) := by decide +kernel
theorem w77_12 : Wp d 77 12 [l0, l1, l2, l3] st h Q = Wp d 77 13 [l0, l1, l2, l3] (.int (0 : Int32) :: st) h Q := W_go f77_12 rfl
theorem f77_13 : fetch 77 13 = some (.putfield 123, 3, [1, 6, 2050, 0], .null) := by decide +kernel
theorem w77_13 : Wp d 77 13 [l0, l1, l2, l3] (v :: .ref a :: st) h Q = pP (h.2 a) 1 6 (ftOf 1 6) v a (fun c => Wp d 77 16 [l0, l1, l2, l3] st (hset h a c) Q) := W_put f77_13 (by rfl)
theorem f77_16 : fetch 77 16 = some (.iload_n 3, 1, [], .null) := by decide +kernel
theorem w77_16 : Wp d 77 16 [l0, l1, l2, some (.int x)] st h Q = Wp d 77 17 [l0, l1, l2, some (.int x)] (.int x :: st) h Q := W_go f77_16 rfl
theorem f77_17 : fetch 77 17 = some (.ireturn, 1, [], .null) := by decide +kernel
theorem w77_17 : Wp d 77 17 [l0, l1, l2, l3] [.int x] h Q = (if narrow .boolean (.int x) = .int x then Q (.inl (some (.int x)), h) else False) := W_zret f77_17 hr77
theorem hm78 : mhs 78 = [] := by decide +kernel
theorem hr78 : mret 78 = (some .int) := by decide +kernel
theorem f78_0 : fetch 78 0 = some (.aload_n 0, 1, [], .null) := by decide +kernel
theorem w78_0 : Wp d 78 0 [some (.ref a), l1, l2, l3] st h Q = Wp d 78 1 [some (.ref a), l1, l2, l3] (.ref a :: st) h Q := W_go f78_0 rfl
theorem f78_1 : fetch 78 1 = some (.iload_n 1, 1, [], .null) := by decide +kernel
theorem w78_1 : Wp d 78 1 [l0, some (.int x), l2, l3] st h Q = Wp d 78 2 [l0, some (.int x), l2, l3] (.int x :: st) h Q := W_go f78_1 rfl
theorem f78_2 : fetch 78 2 = some (.invokevirtual 114, 3, [112, 2, 8, 0, 4142, 1001, 4145, 4144, 22], .null) := by decide +kernel
theorem w78_2 (hp : psum st ≤ 8) : Wp d 78 2 [l0, l1, l2, l3] (v1 :: (.ref b) :: st) h Q = rP (h.2 b) 7 (Cp d 112 [(.ref b), v1] h (fun o => cK o (fun w h2 => Wp d 78 5 [l0, l1, l2, l3] (w.toList ++ st) h2 Q) (fun E h2 => Q (.inr E, h2)))) := (W_invV (st := st) f78_2 rfl rfl (by simp only [List.length_cons]; omega) rfl rfl hp).trans (by simp only [hm78, if_true])
theorem f78_5 : fetch 78 5 = some (.astore_n 3, 1, [], .null) := by decide +kernel
theorem w78_5 : Wp d 78 5 [l0, l1, l2, l3] (.ref a :: st) h Q = Wp d 78 6 [l0, l1, kl l2, some (.ref a)] st h Q := (W_st1 (pc' := 6) (k := 3) f78_5 rfl rfl (by simp only [List.length_cons, List.length_nil]; omega)).trans (by rw [pst1_succ]; rfl)
theorem f78_6 : fetch 78 6 = some (.iload_n 2, 1, [], .null) := by decide +kernel
theorem w78_6 : Wp d 78 6 [l0, l1, some (.int x), l3] st h Q = Wp d 78 7 [l0, l1, some (.int x), l3] (.int x :: st) h Q := W_go f78_6 rfl
theorem f78_7 : fetch 78 7 = some (.iconst 1, 1, [], .null) := by decide +kernel
theorem w78_7 : Wp d 78 7 [l0, l1, l2, l3] st h Q = Wp d 78 8 [l0, l1, l2, l3] (.int (1 : Int32) :: st) h Q := W_go f78_7 rfl
theorem f78_8 : fetch 78 8 = some (.if_icmp .lt 9, 3, [], .null) := by decide +kernel
theorem w78_8 : Wp d 78 8 [l0, l1, l2, l3] (.int y :: .int x :: st) h Q = if icond .lt x y = true then Wp d 78 17 [l0, l1, l2, l3] st h Q else Wp d 78 11 [l0, l1, l2, l3] st h Q := W_if f78_8 rfl
theorem f78_11 : fetch 78 11 = some (.iload_n 2, 1, [], .null) := by decide +kernel
theorem w78_11 : Wp d 78 11 [l0, l1, some (.int x), l3] st h Q = Wp d 78 12 [l0, l1, some (.int x), l3] (.int x :: st) h Q := W_go f78_11 rfl
theorem f78_12 : fetch 78 12 = some (.bipush 30, 2, [], .null) := by decide +kernel
theorem w78_12 : Wp d 78 12 [l0, l1, l2, l3] st h Q = Wp d 78 14 [l0, l1, l2, l3] (.int (30 : Int32) :: st) h Q := W_go f78_12 rfl
theorem f78_14 : fetch 78 14 = some (.if_icmp .le 13, 3, [], .null) := by decide +kernel
theorem w78_14 : Wp d 78 14 [l0, l1, l2, l3] (.int y :: .int x :: st) h Q = if icond .le x y = true then Wp d 78 27 [l0, l1, l2, l3] st h Q else Wp d 78 17 [l0, l1, l2, l3] st h Q := W_if f78_14 rfl
theorem f78_17 : fetch 78 17 = some (.new 60, 3, [101, 4071, 1020], .null) := by decide +kernel
theorem w78_17 (hp : psum st ≤ 8) : Wp d 78 17 [l0, l1, l2, l3] st h Q = Q (.inr "java/lang/IllegalArgumentException", hthr h) := W_fin f78_17 (by simp only [pstep, pnewo, List.getD_cons_zero, if_pos hp]; rfl)
theorem f78_20 : fetch 78 20 = some (.dup, 1, [], .null) := by decide +kernel
theorem w78_20i : Wp d 78 20 [l0, l1, l2, l3] (.int x :: st) h Q = Wp d 78 21 [l0, l1, l2, l3] (.int x :: .int x :: st) h Q := W_go f78_20 rfl
theorem w78_20 : Wp d 78 20 [l0, l1, l2, l3] (.ref a :: st) h Q = Wp d 78 21 [l0, l1, l2, l3] (.ref a :: .ref a :: st) h Q := W_go f78_20 rfl
theorem f78_21 : fetch 78 21 = some (.ldc 126, 2, [4165], .ref 10) := by decide +kernel
theorem w78_21 : Wp d 78 21 [l0, l1, l2, l3] st h Q = Wp d 78 23 [l0, l1, l2, l3] ((.ref 10) :: st) h Q := W_go f78_21 rfl
theorem f78_23 : fetch 78 23 = some (.invokespecial 64, 3, [8888, 4081], .null) := by decide +kernel
theorem f78_26 : fetch 78 26 = some (.athrow, 1, [], .null) := by decide +kernel
theorem f78_27 : fetch 78 27 = some (.aload_n 3, 1, [], .null) := by decide +kernel
theorem w78_27 : Wp d 78 27 [l0, l1, l2, some (.ref a)] st h Q = Wp d 78 28 [l0, l1, l2, some (.ref a)] (.ref a :: st) h Q := W_go f78_27 rfl
theorem f78_28 : fetch 78 28 = some (.aload_n 3, 1, [], .null) := by decide +kernel
theorem w78_28 : Wp d 78 28 [l0, l1, l2, some (.ref a)] st h Q = Wp d 78 29 [l0, l1, l2, some (.ref a)] (.ref a :: st) h Q := W_go f78_28 rfl
theorem f78_29 : fetch 78 29 = some (.getfield 128, 3, [1, 2, 2039, 0], .null) := by decide +kernel
theorem w78_29 : Wp d 78 29 [l0, l1, l2, l3] (.ref a :: st) h Q = gP (h.2 a) 1 2 (fun w => Wp d 78 32 [l0, l1, l2, l3] (w :: st) h Q) := W_get f78_29 rfl
theorem f78_32 : fetch 78 32 = some (.iload_n 2, 1, [], .null) := by decide +kernel
theorem w78_32 : Wp d 78 32 [l0, l1, some (.int x), l3] st h Q = Wp d 78 33 [l0, l1, some (.int x), l3] (.int x :: st) h Q := W_go f78_32 rfl
theorem f78_33 : fetch 78 33 = some (.iadd, 1, [], .null) := by decide +kernel
theorem w78_33 : Wp d 78 33 [l0, l1, l2, l3] (.int y :: .int x :: st) h Q = Wp d 78 34 [l0, l1, l2, l3] (.int (x + y) :: st) h Q := W_go f78_33 rfl
theorem f78_34 : fetch 78 34 = some (.aload_n 3, 1, [], .null) := by decide +kernel
theorem w78_34 : Wp d 78 34 [l0, l1, l2, some (.ref a)] st h Q = Wp d 78 35 [l0, l1, l2, some (.ref a)] (.ref a :: st) h Q := W_go f78_34 rfl
theorem f78_35 : fetch 78 35 = some (.getfield 131, 3, [1, 1, 2036, 0], .null) := by decide +kernel
theorem w78_35 : Wp d 78 35 [l0, l1, l2, l3] (.ref a :: st) h Q = gP (h.2 a) 1 1 (fun w => Wp d 78 38 [l0, l1, l2, l3] (w :: st) h Q) := W_get f78_35 rfl
theorem f78_38 : fetch 78 38 = some (.invokestatic 134, 3, [9997, 2, 4166, 3004, 1021, 3005], .null) := by decide +kernel
theorem w78_38 (hp : psum st ≤ 8) : Wp d 78 38 [l0, l1, l2, l3] (.int y :: .int x :: st) h Q = Wp d 78 41 [l0, l1, l2, l3] (.int (if y < x then y else x) :: st) h Q := W_go f78_38 (by simp only [pstep, pmath, if_pos hp]; rfl)
theorem f78_41 : fetch 78 41 = some (.putfield 128, 3, [1, 2, 2039, 0], .null) := by decide +kernel
theorem w78_41 : Wp d 78 41 [l0, l1, l2, l3] (v :: .ref a :: st) h Q = pP (h.2 a) 1 2 (ftOf 1 2) v a (fun c => Wp d 78 44 [l0, l1, l2, l3] st (hset h a c) Q) := W_put f78_41 (by rfl)
theorem f78_44 : fetch 78 44 = some (.aload_n 3, 1, [], .null) := by decide +kernel
theorem w78_44 : Wp d 78 44 [l0, l1, l2, some (.ref a)] st h Q = Wp d 78 45 [l0, l1, l2, some (.ref a)] (.ref a :: st) h Q := W_go f78_44 rfl
theorem f78_45 : fetch 78 45 = some (.getfield 128, 3, [1, 2, 2039, 0], .null) := by decide +kernel
theorem w78_45 : Wp d 78 45 [l0, l1, l2, l3] (.ref a :: st) h Q = gP (h.2 a) 1 2 (fun w => Wp d 78 48 [l0, l1, l2, l3] (w :: st) h Q) := W_get f78_45 rfl
theorem f78_48 : fetch 78 48 = some (.ireturn, 1, [], .null) := by decide +kernel
theorem w78_48 : Wp d 78 48 [l0, l1, l2, l3] [.int x] h Q = Q (.inl (some (.int x)), h) := W_iret f78_48 hr78
theorem hm79 : mhs 79 = [] := by decide +kernel
theorem hr79 : mret 79 = (some .int) := by decide +kernel
theorem f79_0 : fetch 79 0 = some (.aload_n 0, 1, [], .null) := by decide +kernel
theorem w79_0 : Wp d 79 0 [some (.ref a), l1, l2, l3] st h Q = Wp d 79 1 [some (.ref a), l1, l2, l3] (.ref a :: st) h Q := W_go f79_0 rfl
theorem f79_1 : fetch 79 1 = some (.iload_n 1, 1, [], .null) := by decide +kernel
theorem w79_1 : Wp d 79 1 [l0, some (.int x), l2, l3] st h Q = Wp d 79 2 [l0, some (.int x), l2, l3] (.int x :: st) h Q := W_go f79_1 rfl
theorem f79_2 : fetch 79 2 = some (.invokevirtual 114, 3, [112, 2, 8, 0, 4142, 1001, 4145, 4144, 22], .null) := by decide +kernel
theorem w79_2 (hp : psum st ≤ 8) : Wp d 79 2 [l0, l1, l2, l3] (v1 :: (.ref b) :: st) h Q = rP (h.2 b) 7 (Cp d 112 [(.ref b), v1] h (fun o => cK o (fun w h2 => Wp d 79 5 [l0, l1, l2, l3] (w.toList ++ st) h2 Q) (fun E h2 => Q (.inr E, h2)))) := (W_invV (st := st) f79_2 rfl rfl (by simp only [List.length_cons]; omega) rfl rfl hp).trans (by simp only [hm79, if_true])
theorem f79_5 : fetch 79 5 = some (.astore_n 2, 1, [], .null) := by decide +kernel
theorem w79_5 : Wp d 79 5 [l0, l1, l2, l3] (.ref a :: st) h Q = Wp d 79 6 [l0, kl l1, some (.ref a), l3] st h Q := (W_st1 (pc' := 6) (k := 2) f79_5 rfl rfl (by simp only [List.length_cons, List.length_nil]; omega)).trans (by rw [pst1_succ]; rfl)
theorem f79_6 : fetch 79 6 = some (.aload_n 2, 1, [], .null) := by decide +kernel
theorem w79_6 : Wp d 79 6 [l0, l1, some (.ref a), l3] st h Q = Wp d 79 7 [l0, l1, some (.ref a), l3] (.ref a :: st) h Q := W_go f79_6 rfl
theorem f79_7 : fetch 79 7 = some (.getfield 140, 3, [1, 3, 2042, 0], .null) := by decide +kernel
theorem w79_7 : Wp d 79 7 [l0, l1, l2, l3] (.ref a :: st) h Q = gP (h.2 a) 1 3 (fun w => Wp d 79 10 [l0, l1, l2, l3] (w :: st) h Q) := W_get f79_7 rfl
theorem f79_10 : fetch 79 10 = some (.istore_n 3, 1, [], .null) := by decide +kernel
theorem w79_10 : Wp d 79 10 [l0, l1, l2, l3] (.int x :: st) h Q = Wp d 79 11 [l0, l1, kl l2, some (.int x)] st h Q := (W_st1 (pc' := 11) (k := 3) f79_10 rfl rfl (by simp only [List.length_cons, List.length_nil]; omega)).trans (by rw [pst1_succ]; rfl)
theorem f79_11 : fetch 79 11 = some (.aload_n 2, 1, [], .null) := by decide +kernel
theorem w79_11 : Wp d 79 11 [l0, l1, some (.ref a), l3] st h Q = Wp d 79 12 [l0, l1, some (.ref a), l3] (.ref a :: st) h Q := W_go f79_11 rfl
theorem f79_12 : fetch 79 12 = some (.bipush 10, 2, [], .null) := by decide +kernel
theorem w79_12 : Wp d 79 12 [l0, l1, l2, l3] st h Q = Wp d 79 14 [l0, l1, l2, l3] (.int (10 : Int32) :: st) h Q := W_go f79_12 rfl
theorem f79_14 : fetch 79 14 = some (.putfield 140, 3, [1, 3, 2042, 0], .null) := by decide +kernel
theorem w79_14 : Wp d 79 14 [l0, l1, l2, l3] (v :: .ref a :: st) h Q = pP (h.2 a) 1 3 (ftOf 1 3) v a (fun c => Wp d 79 17 [l0, l1, l2, l3] st (hset h a c) Q) := W_put f79_14 (by rfl)
theorem f79_17 : fetch 79 17 = some (.iload_n 3, 1, [], .null) := by decide +kernel
theorem w79_17 : Wp d 79 17 [l0, l1, l2, some (.int x)] st h Q = Wp d 79 18 [l0, l1, l2, some (.int x)] (.int x :: st) h Q := W_go f79_17 rfl
theorem f79_18 : fetch 79 18 = some (.ireturn, 1, [], .null) := by decide +kernel
theorem w79_18 : Wp d 79 18 [l0, l1, l2, l3] [.int x] h Q = Q (.inl (some (.int x)), h) := W_iret f79_18 hr79
end ROWS40
