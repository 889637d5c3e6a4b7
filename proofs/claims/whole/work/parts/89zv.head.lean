/-! THE LAW'S HEAD, AND WHAT STANDS THEN (printed by gen/init4.py) -/
section HEAD
variable {n i d n2 : Nat} {xs : Nat → Int32} {Q : PO → Prop} {l : List PC} {R : Nat → Option PC} {b : Nat}
theorem ms68_len : (ms68 b).length = 95 := rfl
theorem MB_len {f4 f5 f6 f7 f8 : Nat → Int32} : (MB b f4 f5 f6 f7 f8).length = 57 := rfl
theorem fn0 : (va_up (va_up (va_up (va_up (va_up (va_up (va_up (va_up (va_up (va_up (fun _ => none) 0 (some (b + 42))) 1 (some (b + 43))) 2 (some (b + 44))) 3 (some (b + 45))) 4 (some (b + 46))) 5 (some (b + 47))) 6 (some (b + 48))) 7 (some (b + 49))) 8 (some (b + 50))) 9 (some (b + 51)) : Nat → Option Nat) = fun k => if k < 10 then some (b + 42 + 1 * k) else none := by
  funext k
  by_cases h : k < 10
  · have : k = 0 ∨ k = 1 ∨ k = 2 ∨ k = 3 ∨ k = 4 ∨ k = 5 ∨ k = 6 ∨ k = 7 ∨ k = 8 ∨ k = 9 := by omega
    rcases this with rfl | rfl | rfl | rfl | rfl | rfl | rfl | rfl | rfl | rfl
    all_goals rfl
  · rw [if_neg h]
    unfold va_up
    rw [if_neg (by omega), if_neg (by omega), if_neg (by omega), if_neg (by omega), if_neg (by omega), if_neg (by omega), if_neg (by omega), if_neg (by omega), if_neg (by omega), if_neg (by omega)]
theorem fn1 : (va_up (va_up (va_up (fun _ => none) 0 (some (b + 52))) 1 (some (b + 57))) 2 (some (b + 62)) : Nat → Option Nat) = fun k => if k < 3 then some (b + 52 + 5 * k) else none := by
  funext k
  by_cases h : k < 3
  · have : k = 0 ∨ k = 1 ∨ k = 2 := by omega
    rcases this with rfl | rfl | rfl
    all_goals rfl
  · rw [if_neg h]
    unfold va_up
    rw [if_neg (by omega), if_neg (by omega), if_neg (by omega)]
theorem fn2 : (va_up (va_up (va_up (va_up (va_up (va_up (va_up (va_up (va_up (va_up (fun _ => none) 0 (some (b + 70))) 1 (some (b + 71))) 2 (some (b + 72))) 3 (some (b + 73))) 4 (some (b + 74))) 5 (some (b + 75))) 6 (some (b + 76))) 7 (some (b + 77))) 8 (some (b + 78))) 9 (some (b + 79)) : Nat → Option Nat) = fun k => if k < 10 then some (b + 70 + 1 * k) else none := by
  funext k
  by_cases h : k < 10
  · have : k = 0 ∨ k = 1 ∨ k = 2 ∨ k = 3 ∨ k = 4 ∨ k = 5 ∨ k = 6 ∨ k = 7 ∨ k = 8 ∨ k = 9 := by omega
    rcases this with rfl | rfl | rfl | rfl | rfl | rfl | rfl | rfl | rfl | rfl
    all_goals rfl
  · rw [if_neg h]
    unfold va_up
    rw [if_neg (by omega), if_neg (by omega), if_neg (by omega), if_neg (by omega), if_neg (by omega), if_neg (by omega), if_neg (by omega), if_neg (by omega), if_neg (by omega), if_neg (by omega)]
theorem fn3 : (va_up (va_up (va_up (fun _ => none) 0 (some (b + 80))) 1 (some (b + 85))) 2 (some (b + 90)) : Nat → Option Nat) = fun k => if k < 3 then some (b + 80 + 5 * k) else none := by
  funext k
  by_cases h : k < 3
  · have : k = 0 ∨ k = 1 ∨ k = 2 := by omega
    rcases this with rfl | rfl | rfl
    all_goals rfl
  · rw [if_neg h]
    unfold va_up
    rw [if_neg (by omega), if_neg (by omega), if_neg (by omega)]
def iS : S3 := su (su (su (su (su (su (su (su (su (su (su (su (su (su (su (su (su (fun _ _ _ => 0) 4 205 0 (-1)) 4 207 0 (bk 0)) 4 208 0 (bk 0)) 0 60 0 (bk 1)) 1 60 0 (bk 1)) 0 14 0 (-1)) 0 14 1 (-1)) 0 14 2 (-1)) 0 15 0 (-1)) 0 15 1 (-1)) 0 15 2 (-1)) 1 14 0 (-1)) 1 14 1 (-1)) 1 14 2 (-1)) 1 15 0 (-1)) 1 15 1 (-1)) 1 15 2 (-1)
def iL : L3 := fun g v => if g = 4 ∧ v = 2 then rvF T1 0 fun _ => 0 else fun _ => 0
def iV : S3 := fun g v => if g = 0 ∧ v = 6 then upK 10 10 0 fun _ => 0 else if g = 0 ∧ 5 ≤ v ∧ v ≤ 9 then upK 0 10 0 fun _ => 0 else (su (su (su (fun _ _ _ => 0) 4 202 0 (-1)) 4 206 0 (Int32.ofNat 401)) 4 207 0 (Int32.ofNat 401) : S3) g v
def iW : L3 := fun _ _ _ => 0
theorem cls_at : ∀ k, k < 95 → (ms68 300)[k]? = gov tC 300 iS iL R (300 + k) := by
  intro k hk
  unfold ms68
  rw [fn0, fn1, fn2, fn3]
  match k, hk with
  | 0, _ => rfl
  | 1, _ => rfl
  | 2, _ => rfl
  | 3, _ => rfl
  | 4, _ => rfl
  | 5, _ => rfl
  | 6, _ => rfl
  | 7, _ => rfl
  | 8, _ => rfl
  | 9, _ => rfl
  | 10, _ => rfl
  | 11, _ => rfl
  | 12, _ => rfl
  | 13, _ => rfl
  | 14, _ => rfl
  | 15, _ => rfl
  | 16, _ => rfl
  | 17, _ => rfl
  | 18, _ => rfl
  | 19, _ => rfl
  | 20, _ => rfl
  | 21, _ => rfl
  | 22, _ =>
    have e : iL 4 2 = rvF T1 0 fun _ => 0 := if_pos ⟨rfl, rfl⟩
    show some (Sum.inl (1, 23, Sum.inr (Sum.inl (rvF T1 0 fun _ => 0)))) = some (Sum.inl (1, 23, Sum.inr (Sum.inl (iL 4 2))))
    rw [e]
  | 23, _ => rfl
  | 24, _ => rfl
  | 25, _ => rfl
  | 26, _ => rfl
  | 27, _ => rfl
  | 28, _ => rfl
  | 29, _ => rfl
  | 30, _ => rfl
  | 31, _ => rfl
  | 32, _ => rfl
  | 33, _ => rfl
  | 34, _ => rfl
  | 35, _ => rfl
  | 36, _ => rfl
  | 37, _ => rfl
  | 38, _ => rfl
  | 39, _ => rfl
  | 40, _ => rfl
  | 41, _ => rfl
  | 42, _ => rfl
  | 43, _ => rfl
  | 44, _ => rfl
  | 45, _ => rfl
  | 46, _ => rfl
  | 47, _ => rfl
  | 48, _ => rfl
  | 49, _ => rfl
  | 50, _ => rfl
  | 51, _ => rfl
  | 52, _ => rfl
  | 53, _ => rfl
  | 54, _ => rfl
  | 55, _ => rfl
  | 56, _ => rfl
  | 57, _ => rfl
  | 58, _ => rfl
  | 59, _ => rfl
  | 60, _ => rfl
  | 61, _ => rfl
  | 62, _ => rfl
  | 63, _ => rfl
  | 64, _ => rfl
  | 65, _ => rfl
  | 66, _ => rfl
  | 67, _ => rfl
  | 68, _ => rfl
  | 69, _ => rfl
  | 70, _ => rfl
  | 71, _ => rfl
  | 72, _ => rfl
  | 73, _ => rfl
  | 74, _ => rfl
  | 75, _ => rfl
  | 76, _ => rfl
  | 77, _ => rfl
  | 78, _ => rfl
  | 79, _ => rfl
  | 80, _ => rfl
  | 81, _ => rfl
  | 82, _ => rfl
  | 83, _ => rfl
  | 84, _ => rfl
  | 85, _ => rfl
  | 86, _ => rfl
  | 87, _ => rfl
  | 88, _ => rfl
  | 89, _ => rfl
  | 90, _ => rfl
  | 91, _ => rfl
  | 92, _ => rfl
  | 93, _ => rfl
  | 94, _ => rfl
  | k + 95, hk => exact absurd hk (by omega)
theorem ref_at : ∀ k, k < 58 → (MB 395 (upK 0 10 0 fun _ => 0) (upK 10 10 0 fun _ => 0) (upK 0 10 0 fun _ => 0) (upK 0 10 0 fun _ => 0) (upK 0 10 0 fun _ => 0) ++ [.inl (1, 1, .inr (.inl fun _ => 0))])[k]? = gov tR 395 iV iW (gov tP 401 P0 iW fun _ => none) (395 + k) := by
  intro k hk
  match k, hk with
  | 0, _ => rfl
  | 1, _ => rfl
  | 2, _ => rfl
  | 3, _ => rfl
  | 4, _ => rfl
  | 5, _ => rfl
  | 6, _ => rfl
  | 7, _ => rfl
  | 8, _ => rfl
  | 9, _ => rfl
  | 10, _ => rfl
  | 11, _ => rfl
  | 12, _ => rfl
  | 13, _ => rfl
  | 14, _ => rfl
  | 15, _ => rfl
  | 16, _ => rfl
  | 17, _ => rfl
  | 18, _ => rfl
  | 19, _ => rfl
  | 20, _ => rfl
  | 21, _ => rfl
  | 22, _ => rfl
  | 23, _ => rfl
  | 24, _ => rfl
  | 25, _ => rfl
  | 26, _ => rfl
  | 27, _ => rfl
  | 28, _ => rfl
  | 29, _ => rfl
  | 30, _ => rfl
  | 31, _ => rfl
  | 32, _ => rfl
  | 33, _ => rfl
  | 34, _ => rfl
  | 35, _ => rfl
  | 36, _ => rfl
  | 37, _ => rfl
  | 38, _ => rfl
  | 39, _ => rfl
  | 40, _ => rfl
  | 41, _ => rfl
  | 42, _ => rfl
  | 43, _ => rfl
  | 44, _ => rfl
  | 45, _ => rfl
  | 46, _ => rfl
  | 47, _ => rfl
  | 48, _ => rfl
  | 49, _ => rfl
  | 50, _ => rfl
  | 51, _ => rfl
  | 52, _ => rfl
  | 53, _ => rfl
  | 54, _ => rfl
  | 55, _ => rfl
  | 56, _ => rfl
  | 57, _ => rfl
  | k + 58, hk => exact absurd hk (by omega)
end HEAD
