/-! A NEW PLAN -/
section PLN
variable {c : Nat × Nat × Nat} {C : Nat → Option PC} {V P : S3} {W : L3} {R : Nat → Option PC} {pl d a j k n1 n2 : Nat} {x : Int32} {Q : PO → Prop} {fs : List Value}
def lnP (j : Nat) : Nat := if j ≤ 2 then 10 else 400
/-- a plan half made at a: its object, j rows -/
def pn (R : Nat → Option PC) (a j : Nat) (fs : List Value) : Nat → Option PC := fun k => if k = a then some (.inr (8, fs)) else if a < k ∧ k ≤ a + j then some (.inl (0, lnP (k - a), .inl fun _ => 0)) else R k
theorem pn_new (h1 : 453 ≤ a) (h2 : pl + 16 ≤ a) (hx : x.toNatClampNeg = lnP (j + 1)) : hnew (RP (a + 1 + j, n1, n2) C V W pl P (pn R a j fs)) x.toNatClampNeg (.inl (0, arr0 0 x.toNatClampNeg)) = RP (a + 1 + (j + 1), n1 + 1, n2 + x.toNatClampNeg) C V W pl P (pn R a (j + 1) fs) := by
  rw [RP_new (c := (a + 1 + j, n1, n2)) (by show 453 ≤ a + 1 + j; omega) (by show pl + 16 ≤ a + 1 + j; omega)]
  have e : upR (pn R a j fs) (a + 1 + j) (.inl (0, arr0 0 x.toNatClampNeg)) = pn R a (j + 1) fs := by
    funext k
    unfold upR pn
    by_cases hk : k = a + 1 + j
    · rw [if_pos hk, if_neg (by omega), if_pos (by omega), hx, hk, show a + 1 + j - a = j + 1 by omega]
      rfl
    · rw [if_neg hk]
      by_cases h3 : k = a
      · rw [if_pos h3, if_pos h3]
      · rw [if_neg h3, if_neg h3]
        by_cases h4 : a < k ∧ k ≤ a + j
        · rw [if_pos h4, if_pos (by omega)]
        · rw [if_neg h4, if_neg (by omega)]
  show RP (a + 1 + j + 1, n1 + 1, n2 + x.toNatClampNeg) C V W pl P (upR (pn R a j fs) (a + 1 + j) (.inl (0, arr0 0 x.toNatClampNeg))) = _
  rw [e]
  rfl
theorem pn_up {q : List Value} : upR (pn R a j fs) a (.inr (8, q)) = pn R a j q := by
  funext k
  unfold upR pn
  by_cases hk : k = a
  · rw [if_pos hk, if_pos hk]
  · rw [if_neg hk, if_neg hk, if_neg hk]
theorem pn_self : upR (pn R a j fs) a (.inr (8, fs)) = pn R a j fs := pn_up
theorem pn_put {b jj pc : Nat} {ls : PL} {st : List Value} (h1 : 453 ≤ a) (h2 : pl + 16 ≤ a) {ty : FieldType} (ht : ftOf 8 k = .array ty) (hk : k < fs.length) : pP ((RP c C V W pl P (pn R a j fs)).2 a) 8 k (ftOf 8 k) (.ref b) a (fun q => Wp d jj pc ls st (hset (RP c C V W pl P (pn R a j fs)) a q) Q) = Wp d jj pc ls st (RP c C V W pl P (pn R a j (fs.set k (.ref b)))) Q := by
  have e : (RP c C V W pl P (pn R a j fs)).2 a = some (.inr (8, fs)) := by
    rw [← pn_self, RP_at h1 h2]
  rw [e, ht, pP_mk (by omega) hk rfl rfl]
  rw [show hset (RP c C V W pl P (pn R a j fs)) a (.inr (8, fs.set k (.ref b))) = RP c C V W pl P (pn R a j (fs.set k (.ref b))) from by
    conv => lhs; rw [← pn_self]
    rw [RP_up h1 h2, pn_up]]
theorem RP_c {x : Nat} : (RP (x, n1, n2) C V W pl P R).1.1 = x := rfl
def pd8 : List Value := [.int 0, .int 0, .int 0, .null, .null, .null, .int 0, .null, .int 0, .int 0, .null, .null, .null, .null, .null, .null, .null, .null, .int 0, .null, .null, .null]
theorem pdef8 : pdef 8 = pd8 := by decide +kernel
def plF (a : Nat) : List Value := [.int 0, .int 0, .int 0, .ref (a + 1), .ref (a + 2), .ref (a + 3), .int 0, .ref (a + 4), .int 0, .int 0, .ref (a + 5), .ref (a + 6), .ref (a + 7), .ref (a + 8), .ref (a + 9), .ref (a + 10), .ref (a + 11), .ref (a + 12), .int 0, .ref (a + 13), .ref (a + 14), .ref (a + 15)]
theorem r118 (h1 : 453 ≤ a) (h2 : pl + 16 ≤ a) : Cp (d + 1) 118 [.ref a] (RP (a + 1 + 0, n1, n2) C V W pl P (pn R a 0 pd8)) Q = Q (.inl none, RP (a + 16, n1 + 15, n2 + 5220) C V W pl P (pn R a 15 (plF a))) := by
  have h22 : pd8.length = 22 := rfl
  have e10 : Int32.toNatClampNeg 10 = 10 := by decide
  have e400 : Int32.toNatClampNeg 400 = 400 := by decide
  rw [ce118, w118_0, w118_1 ⟨by decide, by omega⟩]
  rw [w118_4, w118_5, w118_7 (by decide), RP_c, pn_new h1 h2 (by decide), w118_9, pn_put h1 h2 ft8_3 (by simp only [List.length_set, h22]; decide)]
  rw [w118_12, w118_13, w118_15 (by decide), RP_c, pn_new h1 h2 (by decide), w118_17, pn_put h1 h2 ft8_4 (by simp only [List.length_set, h22]; decide)]
  rw [w118_20, w118_21, w118_24 (by decide), RP_c, pn_new h1 h2 (by decide), w118_26, pn_put h1 h2 ft8_5 (by simp only [List.length_set, h22]; decide)]
  rw [w118_29, w118_30, w118_33 (by decide), RP_c, pn_new h1 h2 (by decide), w118_35, pn_put h1 h2 ft8_7 (by simp only [List.length_set, h22]; decide)]
  rw [w118_38, w118_39, w118_42 (by decide), RP_c, pn_new h1 h2 (by decide), w118_44, pn_put h1 h2 ft8_10 (by simp only [List.length_set, h22]; decide)]
  rw [w118_47, w118_48, w118_51 (by decide), RP_c, pn_new h1 h2 (by decide), w118_53, pn_put h1 h2 ft8_11 (by simp only [List.length_set, h22]; decide)]
  rw [w118_56, w118_57, w118_60 (by decide), RP_c, pn_new h1 h2 (by decide), w118_62, pn_put h1 h2 ft8_12 (by simp only [List.length_set, h22]; decide)]
  rw [w118_65, w118_66, w118_69 (by decide), RP_c, pn_new h1 h2 (by decide), w118_71, pn_put h1 h2 ft8_13 (by simp only [List.length_set, h22]; decide)]
  rw [w118_74, w118_75, w118_78 (by decide), RP_c, pn_new h1 h2 (by decide), w118_80, pn_put h1 h2 ft8_14 (by simp only [List.length_set, h22]; decide)]
  rw [w118_83, w118_84, w118_87 (by decide), RP_c, pn_new h1 h2 (by decide), w118_89, pn_put h1 h2 ft8_15 (by simp only [List.length_set, h22]; decide)]
  rw [w118_92, w118_93, w118_96 (by decide), RP_c, pn_new h1 h2 (by decide), w118_98, pn_put h1 h2 ft8_16 (by simp only [List.length_set, h22]; decide)]
  rw [w118_101, w118_102, w118_105 (by decide), RP_c, pn_new h1 h2 (by decide), w118_107, pn_put h1 h2 ft8_17 (by simp only [List.length_set, h22]; decide)]
  rw [w118_110, w118_111, w118_114 (by decide), RP_c, pn_new h1 h2 (by decide), w118_116, pn_put h1 h2 ft8_19 (by simp only [List.length_set, h22]; decide)]
  rw [w118_119, w118_120, w118_123 (by decide), RP_c, pn_new h1 h2 (by decide), w118_125, pn_put h1 h2 ft8_20 (by simp only [List.length_set, h22]; decide)]
  rw [w118_128, w118_129, w118_132 (by decide), RP_c, pn_new h1 h2 (by decide), w118_134, pn_put h1 h2 ft8_21 (by simp only [List.length_set, h22]; decide)]
  rw [w118_137, e10, e400]
  simp only [Nat.add_assoc, Nat.reduceAdd]
  rfl
end PLN
