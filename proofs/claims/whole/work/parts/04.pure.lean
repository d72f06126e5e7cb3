/-! plain facts: ranges of raw ints, what is wanted, sets of bits -/
abbrev inR (x : Int32) (n : Nat) : Prop := 0 ≤ x.toInt ∧ x.toInt < (n : Int)
theorem i_lt {a b : Int32} : a < b ↔ a.toInt < b.toInt := Int32.lt_iff_toInt_lt
theorem i_le {a b : Int32} : a ≤ b ↔ a.toInt ≤ b.toInt := Int32.le_iff_toInt_le
theorem l_lt {a b : Int64} : a < b ↔ a.toInt < b.toInt := Int64.lt_iff_toInt_lt
theorem l_le {a b : Int64} : a ≤ b ↔ a.toInt ≤ b.toInt := Int64.le_iff_toInt_le
theorem i_0 : (0 : Int32).toInt = 0 := by decide
theorem l_0 : (0 : Int64).toInt = 0 := by decide
theorem inR_ex {x : Int32} {n : Nat} (h : inR x n) (hn : n ≤ 2 ^ 31) : ∃ j : Nat, j < n ∧ x = nI j := by
  obtain ⟨h1, h2⟩ := h
  refine ⟨x.toInt.toNat, by omega, ?_⟩
  apply Int32.toInt_inj.mp
  rw [nI_toInt (by omega)]
  omega
theorem inR_nI {j n : Nat} (hj : j < 2 ^ 31) : inR (nI j) n ↔ j < n := by
  unfold inR
  rw [nI_toInt hj]; omega
theorem inR_neg {x : Int32} {n : Nat} (h : x < 0) : ¬ inR x n := by
  rw [i_lt, i_0] at h; intro q; omega
theorem inR_big {x : Int32} {n : Nat} (h : nI n ≤ x) (hn : n < 2 ^ 31) : ¬ inR x n := by
  rw [i_le, nI_toInt hn] at h; intro q; omega
theorem inR_of {x : Int32} {n : Nat} (h0 : ¬ x < 0) (h : ¬ nI n ≤ x) (hn : n < 2 ^ 31) : inR x n := by
  rw [i_lt, i_0] at h0; rw [i_le, nI_toInt hn] at h; constructor <;> omega
theorem inR_big' {x : Int32} {n : Nat} (h : nI n < x) (hn : n < 2 ^ 31) : ¬ inR x (n + 1) := by
  rw [i_lt, nI_toInt hn] at h; intro q; omega
theorem inR_of' {x : Int32} {n : Nat} (h0 : ¬ x < 0) (h : ¬ nI n < x) (hn : n < 2 ^ 31) : inR x (n + 1) := by
  rw [i_lt, i_0] at h0; rw [i_lt, nI_toInt hn] at h; constructor <;> omega
theorem wide (x : Int32) : x.toInt64.toInt = x.toInt := Int32.toInt_toInt64 x
theorem rngI (x : Int32) : -2147483648 ≤ x.toInt ∧ x.toInt < 2147483648 := by
  have h1 := Int32.le_toInt x
  have h2 := Int32.toInt_lt x
  constructor <;> omega
theorem lcmp_lt {x y : Int64} : lg_cmp x y < 0 ↔ x.toInt < y.toInt := by
  unfold lg_cmp
  by_cases h : x > y
  · rw [if_pos h]; have := l_lt.mp h
    constructor
    · intro q; exact absurd q (by decide)
    · intro q; omega
  · rw [if_neg h]
    by_cases h2 : x = y
    · rw [if_pos h2]; subst h2
      constructor
      · intro q; exact absurd q (by decide)
      · intro q; omega
    · rw [if_neg h2]
      have h3 : ¬ y.toInt < x.toInt := fun q => h (l_lt.mpr q)
      have h4 : x.toInt ≠ y.toInt := fun q => h2 (Int64.toInt_inj.mp q)
      constructor
      · intro _; omega
      · intro _; decide
theorem lcmp_gt {x y : Int64} : 0 < lg_cmp x y ↔ y.toInt < x.toInt := by
  unfold lg_cmp
  by_cases h : x > y
  · rw [if_pos h]; have := l_lt.mp h
    constructor
    · intro _; omega
    · intro _; decide
  · rw [if_neg h]
    have h3 : ¬ y.toInt < x.toInt := fun q => h (l_lt.mpr q)
    by_cases h2 : x = y
    · rw [if_pos h2]
      constructor
      · intro q; exact absurd q (by decide)
      · intro q; omega
    · rw [if_neg h2]
      constructor
      · intro q; exact absurd q (by decide)
      · intro q; omega
theorem lcmp_eq {x y : Int64} : lg_cmp x y = 0 ↔ x = y := by
  unfold lg_cmp
  by_cases h : x > y
  · rw [if_pos h]
    constructor
    · intro q; exact absurd q (by decide)
    · intro q; subst q; have := l_lt.mp h; omega
  · rw [if_neg h]
    by_cases h2 : x = y
    · rw [if_pos h2]; simp [h2]
    · rw [if_neg h2]
      constructor
      · intro q; exact absurd q (by decide)
      · intro q; exact absurd q h2
/-- what the model's 'in' says of an int in 0 .. h -/
theorem in_iff {r : Int32} {lo hi : Int64} {n : Nat} (h0 : lo.toInt = 0) (h : hi.toInt = (n : Int) - 1) : (lo.toInt ≤ r.toInt64.toInt ∧ r.toInt64.toInt ≤ hi.toInt) ↔ inR r n := by
  rw [h0, h, wide]; constructor <;> (intro q; constructor <;> omega)
theorem bm64 {z : Int} (h1 : -9223372036854775808 ≤ z) (h2 : z < 9223372036854775808) : z.bmod (2 ^ 64) = z := by
  have : (2 : Int) ^ 64 = 18446744073709551616 := by decide
  apply Int.bmod_eq_of_le
  all_goals omega
theorem bm32 {z : Int} (h1 : -2147483648 ≤ z) (h2 : z < 2147483648) : z.bmod (2 ^ 32) = z := by
  apply Int.bmod_eq_of_le
  all_goals omega
theorem hi_sub {n : Nat} {k : Int64} {m : Nat} (hn : n < 2 ^ 31) (hk : k.toInt = (m : Int)) (hm : m < 2 ^ 31) : ((nI n).toInt64 - k).toInt = (n : Int) - m := by
  rw [Int64.toInt_sub, wide, nI_toInt hn, hk]
  exact bm64 (by omega) (by omega)
/-- what is wanted, by kind and limit -/
def want (k m : Nat) : Nat := if k = 0 then m else if k = 1 then m - 1 else (m - 1) / 2
theorem want_le (k m : Nat) : want k m ≤ m := by
  unfold want; split
  · omega
  · split <;> omega
theorem ie_mx {l : Nat} (h : l < 2 ^ 31) : (if nI 0 < nI l - nI 1 then nI l - nI 1 else nI 0) = nI (l - 1) := by
  by_cases h1 : 1 ≤ l
  · rw [pk_sub h1]
    by_cases h2 : nI 0 < nI (l - 1)
    · rw [if_pos h2]
    · rw [if_neg h2]
      have : ¬ 0 < l - 1 := fun q => h2 ((nI_ltI (by decide) (by omega)).mpr q)
      rw [show l - 1 = 0 by omega]
  · have : l = 0 := by omega
    subst this; decide
theorem ie_mn {a b : Nat} (ha : a < 2 ^ 31) (hb : b < 2 ^ 31) : (if nI b < nI a then nI b else nI a) = nI (min a b) := by
  by_cases h : nI b < nI a
  · rw [if_pos h]; have := (nI_ltI hb ha).mp h; rw [show min a b = b by omega]
  · rw [if_neg h]
    have : ¬ b < a := fun q => h ((nI_ltI hb ha).mpr q)
    rw [show min a b = a by omega]
theorem ie_mxN {a b : Nat} (ha : a < 2 ^ 31) (hb : b < 2 ^ 31) : (if nI a < nI b then nI b else nI a) = nI (max a b) := by
  by_cases h : nI a < nI b
  · rw [if_pos h]; have := (nI_ltI ha hb).mp h; rw [show max a b = b by omega]
  · rw [if_neg h]
    have : ¬ a < b := fun q => h ((nI_ltI ha hb).mpr q)
    rw [show max a b = a by omega]
/-- whether gate g may be opened -/
abbrev mayN (kd lv lm : Nat → Nat) (g : Nat) : Prop := 1 ≤ lv g ∧ lv (g + 1) < want (kd (g + 1)) (lm (g + 1))
/-- the bit of number v -/
def bitI (v : Nat) : Int32 := nI 1 <<< (nI v &&& 31)
/-- the numbers below k with P, as bits -/
noncomputable def setI (P : Nat → Prop) : Nat → Int32
  | 0 => nI 0
  | k + 1 => @ite _ (P k) (Classical.propDecidable (P k)) (setI P k ||| bitI k) (setI P k)
theorem setI_y {P : Nat → Prop} {k : Nat} (h : P k) : setI P (k + 1) = setI P k ||| bitI k := by
  show @ite _ (P k) (Classical.propDecidable (P k)) _ _ = _
  rw [if_pos h]
theorem setI_n {P : Nat → Prop} {k : Nat} (h : ¬ P k) : setI P (k + 1) = setI P k := by
  show @ite _ (P k) (Classical.propDecidable (P k)) _ _ = _
  rw [if_neg h]
theorem setI_cong {P P' : Nat → Prop} : ∀ {k : Nat}, (∀ j, j < k → (P j ↔ P' j)) → setI P k = setI P' k
  | 0, _ => rfl
  | k + 1, h => by
    have ih := setI_cong (k := k) (fun j hj => h j (by omega))
    by_cases hp : P k
    · rw [setI_y hp, setI_y ((h k (by omega)).mp hp), ih]
    · rw [setI_n hp, setI_n (fun q => hp ((h k (by omega)).mpr q)), ih]
/-- the levels behind gate g's opening; behind a night -/
def thru (lv : Nat → Nat) (g : Nat) : Nat → Nat := sF (sF lv g (lv g - 1)) (g + 1) (lv (g + 1) + 1)
def night (n rn : Nat) (lv : Nat → Nat) : Nat → Nat := sF (sF lv 0 (min 9 (lv 0 + rn))) (n - 1) (lv (n - 1) - 1)
theorem or0 (x : Int32) : x ||| nI 0 = x := by rw [nI_0]; exact Int32.or_zero
abbrev wC (cI cZ : ClassId) (q : Nat) (a : Nat → Nat) (g : Nat → Nat) (F : Nat → Nat → Nat) : va_W := [(q, .inr (0, [.int (nI (g 0)), .int (nI (g 1)), .ref (a 2), .ref (a 3), .ref (a 4)])), (a 2, .inl (cI, 4, .inl (fun i => nI (F 2 i)))), (a 3, .inl (cI, 4, .inl (fun i => nI (F 3 i)))), (a 4, .inl (cI, 4, .inl (fun i => nI (F 4 i))))]
abbrev wR (cI cZ : ClassId) (q : Nat) (a : Nat → Nat) (g : Nat → Nat) (F : Nat → Nat → Nat) (E : Nat → Nat → Int32) : va_W := [(q, .inr (1, [.int (nI (g 0)), .ref (a 1), .ref (a 2), .ref (a 3)])), (a 1, .inl (cI, 8, .inl (fun i => nI (F 1 i)))), (a 2, .inl (cI, 8, .inl (E 2))), (a 3, .inl (cZ, 8, .inl (fun i => nI (F 3 i))))]
abbrev wS (cI cZ : ClassId) (q : Nat) (a : Nat → Nat) (g : Nat → Nat) (h : Nat → Int32) (k : Int64) (F : Nat → Nat → Nat) : va_W := [(q, .inr (2, [.ref (a 0), .ref (a 1), .int (nI (g 2)), .ref (a 3), .int (h 4), .long k, .int (nI (g 6)), .int (nI (g 7)), .int (nI (g 8)), .int (nI (g 9)), .int (nI (g 10)), .int (nI (g 11))])), (a 0, .inl (cI, 40000, .inl (fun i => nI (F 0 i)))), (a 1, .inl (cI, 40000, .inl (fun i => nI (F 1 i)))), (a 3, .inl (cI, 40, .inl (fun i => nI (F 3 i))))]
abbrev wT (cI cZ : ClassId) (q : Nat) (a : Nat → Nat) (g : Nat → Nat) : va_W := [(q, .inr (3, [.int (nI (g 0)), .int (nI (g 1)), .int (nI (g 2)), .ref (a 3)]))]
abbrev wB (cI : ClassId) (q : Nat) (f : Nat → Int32) : va_W := [(q, .inl (cI, 60, .inl f))]
abbrev wX (cI cZ : ClassId) (q : Nat) (a : Nat → Nat) (g : Nat → Nat) (h : Nat → Int32) : va_W := [(q, .inr (4, [.ref (a 0), .ref (a 1), .ref (a 2), .ref (a 3), .ref (a 4), .int (h 5), .int (nI (g 6))]))]
abbrev wM (cI cZ : ClassId) (q : Nat) (a : Nat → Nat) (g : Nat → Nat) (h : Nat → Int32) (F : Nat → Nat → Nat) (E : Nat → Nat → Int32) : va_W := [(q, .inr (5, [.int (nI (g 0)), .int (nI (g 1)), .int (nI (g 2)), .ref (a 3), .ref (a 4), .ref (a 5), .int (nI (g 6)), .int (h 7), .int (nI (g 8)), .ref (a 9), .ref (a 10), .ref (a 11), .ref (a 12), .int (h 13), .int (nI (g 14)), .ref (a 15), .ref (a 16), .int (nI (g 17)), .int (nI (g 18)), .ref (a 19), .int (nI (g 20)), .int (nI (g 21)), .ref (a 22), .ref (a 23), .ref (a 24), .ref (a 25), .ref (a 26), .ref (a 27), .ref (a 28), .int (h 29)])), (a 3, .inl (cI, 4, .inl (fun i => nI (F 3 i)))), (a 4, .inl (cI, 4, .inl (fun i => nI (F 4 i)))), (a 5, .inl (cI, 4, .inl (fun i => nI (F 5 i)))), (a 9, .inl (cI, 4, .inl (fun i => nI (F 9 i)))), (a 10, .inl (cI, 4, .inl (fun i => nI (F 10 i)))), (a 11, .inl (cI, 4, .inl (fun i => nI (F 11 i)))), (a 12, .inl (cI, 4, .inl (fun i => nI (F 12 i)))), (a 15, .inl (cI, 40000, .inl (E 15))), (a 16, .inl (cI, 40000, .inl (fun i => nI (F 16 i)))), (a 19, .inl (cI, 40, .inl (fun i => nI (F 19 i)))), (a 22, .inl (cI, 8, .inl (fun i => nI (F 22 i)))), (a 23, .inl (cI, 8, .inl (E 23))), (a 24, .inl (cZ, 8, .inl (fun i => nI (F 24 i)))), (a 25, .inl (cI, 4, .inl (E 25))), (a 26, .inl (cI, 4, .inl (fun i => nI (F 26 i)))), (a 27, .inl (cI, 240, .inl (E 27))), (a 28, .inl (cI, 60, .inl (E 28)))]
abbrev wA (cO : ClassId) (q : Nat) (s : Nat → Nat) : va_W := [(q, .inl (cO, 4, .inr (.inr (.inr (.inr (fun k => some (s k)))))))]
