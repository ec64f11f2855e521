/-! numbers: an int of the machine as a whole number's -/
abbrev i32 (z : Int) : Int32 := Int32.ofInt z
abbrev i64 (z : Int) : Int64 := Int64.ofInt z
theorem i32_add (a b : Int) : i32 a + i32 b = i32 (a + b) := (Int32.ofInt_add a b).symm
theorem i32_sub (a b : Int) : i32 a - i32 b = i32 (a - b) := (Int32.ofInt_sub a b).symm
theorem i32_mul (a b : Int) : i32 a * i32 b = i32 (a * b) := (Int32.ofInt_mul a b).symm
theorem i32_neg (a : Int) : - i32 a = i32 (-a) := (Int32.ofInt_neg a).symm
theorem i64_add (a b : Int) : i64 a + i64 b = i64 (a + b) := (Int64.ofInt_add a b).symm
theorem i64_sub (a b : Int) : i64 a - i64 b = i64 (a - b) := (Int64.ofInt_sub a b).symm
theorem i64_mul (a b : Int) : i64 a * i64 b = i64 (a * b) := (Int64.ofInt_mul a b).symm
theorem i32_toInt {a : Int} (h : -2147483648 ≤ a ∧ a ≤ 2147483647) : (i32 a).toInt = a := Int32.toInt_ofInt_of_le (by omega) (by omega)
theorem i64_toInt {a : Int} (h : -9223372036854775808 ≤ a ∧ a ≤ 9223372036854775807) : (i64 a).toInt = a := Int64.toInt_ofInt_of_le (by omega) (by omega)
theorem i32_lt {a b : Int} (h : (-2147483648 ≤ a ∧ a ≤ 2147483647) ∧ (-2147483648 ≤ b ∧ b ≤ 2147483647)) : i32 a < i32 b ↔ a < b := by rw [Int32.lt_iff_toInt_lt, i32_toInt h.1, i32_toInt h.2]
theorem i32_le {a b : Int} (h : (-2147483648 ≤ a ∧ a ≤ 2147483647) ∧ (-2147483648 ≤ b ∧ b ≤ 2147483647)) : i32 a ≤ i32 b ↔ a ≤ b := by rw [Int32.le_iff_toInt_le, i32_toInt h.1, i32_toInt h.2]
theorem i32_eq {a b : Int} (h : (-2147483648 ≤ a ∧ a ≤ 2147483647) ∧ (-2147483648 ≤ b ∧ b ≤ 2147483647)) : i32 a = i32 b ↔ a = b := by rw [← Int32.toInt_inj, i32_toInt h.1, i32_toInt h.2]
theorem i64_lt {a b : Int} (h : (-9223372036854775808 ≤ a ∧ a ≤ 9223372036854775807) ∧ (-9223372036854775808 ≤ b ∧ b ≤ 9223372036854775807)) : i64 a < i64 b ↔ a < b := by rw [Int64.lt_iff_toInt_lt, i64_toInt h.1, i64_toInt h.2]
theorem i64_le {a b : Int} (h : (-9223372036854775808 ≤ a ∧ a ≤ 9223372036854775807) ∧ (-9223372036854775808 ≤ b ∧ b ≤ 9223372036854775807)) : i64 a ≤ i64 b ↔ a ≤ b := by rw [Int64.le_iff_toInt_le, i64_toInt h.1, i64_toInt h.2]
theorem i64_eq {a b : Int} (h : (-9223372036854775808 ≤ a ∧ a ≤ 9223372036854775807) ∧ (-9223372036854775808 ≤ b ∧ b ≤ 9223372036854775807)) : i64 a = i64 b ↔ a = b := by rw [← Int64.toInt_inj, i64_toInt h.1, i64_toInt h.2]
theorem i32_of (x : Int32) : x = i32 x.toInt := (Int32.ofInt_toInt x).symm
theorem i32_rng (x : Int32) : -2147483648 ≤ x.toInt ∧ x.toInt ≤ 2147483647 := by
  have h1 := Int32.le_toInt x
  have h2 := Int32.toInt_lt x
  omega
theorem i32_nat {j : Int} (h : 0 ≤ j ∧ j ≤ 2147483647) : (i32 j).toNatClampNeg = j.toNat := by
  show (i32 j).toInt.toNat = j.toNat
  rw [i32_toInt (by omega)]
theorem i32_nneg {j : Int} (h : 0 ≤ j ∧ j ≤ 2147483647) : ¬ i32 j < 0 := by
  have : (0 : Int32) = i32 0 := rfl
  rw [this, i32_lt (by omega)]
  omega
theorem i32_ofNat (n : Nat) : Int32.ofNat n = i32 (n : Int) := by
  first | exact (Int32.ofInt_eq_ofNat).symm | rfl | simp [i32]
theorem i32_div {a b : Int} (ha : 0 ≤ a ∧ a ≤ 2147483647) (hb : 0 < b ∧ b ≤ 2147483647) : i32 a / i32 b = i32 (a / b) := by
  apply Int32.toInt_inj.mp
  have h1 : 0 ≤ a / b := Int.ediv_nonneg ha.1 (by omega)
  have h2 : a / b ≤ a := Int.ediv_le_self b ha.1
  rw [Int32.toInt_div, i32_toInt (by omega), i32_toInt (by omega), i32_toInt (by omega), Int.tdiv_eq_ediv_of_nonneg ha.1]
  rw [Int.bmod_eq_of_le (by omega) (by omega)]
theorem i32_rem {a b : Int} (ha : 0 ≤ a ∧ a ≤ 2147483647) (hb : 0 < b ∧ b ≤ 2147483647) : i32 a - i32 a / i32 b * i32 b = i32 (a % b) := by
  rw [i32_div ha hb, i32_mul, i32_sub]
  congr 1
  rw [Int.emod_def, Int.mul_comm]
theorem i64_div {a b : Int} (ha : 0 ≤ a ∧ a ≤ 9223372036854775807) (hb : 0 < b ∧ b ≤ 9223372036854775807) : i64 a / i64 b = i64 (a / b) := by
  apply Int64.toInt_inj.mp
  have h1 : 0 ≤ a / b := Int.ediv_nonneg ha.1 (by omega)
  have h2 : a / b ≤ a := Int.ediv_le_self b ha.1
  rw [Int64.toInt_div, i64_toInt (by omega), i64_toInt (by omega), i64_toInt (by omega), Int.tdiv_eq_ediv_of_nonneg ha.1]
  rw [Int.bmod_eq_of_le (by omega) (by omega)]
theorem i64_rem {a b : Int} (ha : 0 ≤ a ∧ a ≤ 9223372036854775807) (hb : 0 < b ∧ b ≤ 9223372036854775807) : i64 a - i64 a / i64 b * i64 b = i64 (a % b) := by
  rw [i64_div ha hb, i64_mul, i64_sub]
  congr 1
  rw [Int.emod_def, Int.mul_comm]
theorem i32_i2l {a : Int} (h : -2147483648 ≤ a ∧ a ≤ 2147483647) : (i32 a).toInt64 = i64 a := by
  apply Int64.toInt_inj.mp
  rw [Int32.toInt_toInt64, i32_toInt h, i64_toInt (by omega)]
theorem i64_l2i (a : Int) : (i64 a).toInt32 = i32 a := by
  first | exact Int64.toInt32_ofInt | exact Int64.toInt32_ofInt a | simp [i64, i32]
theorem i32_max {a b : Int} (h : (-2147483648 ≤ a ∧ a ≤ 2147483647) ∧ (-2147483648 ≤ b ∧ b ≤ 2147483647)) : (if i32 a < i32 b then i32 b else i32 a) = i32 (max a b) := by
  by_cases c : a < b
  · rw [if_pos ((i32_lt h).mpr c)]; congr 1; omega
  · rw [if_neg (fun z => c ((i32_lt h).mp z))]; congr 1; omega
theorem i32_min {a b : Int} (h : (-2147483648 ≤ a ∧ a ≤ 2147483647) ∧ (-2147483648 ≤ b ∧ b ≤ 2147483647)) : (if i32 b < i32 a then i32 b else i32 a) = i32 (min a b) := by
  by_cases c : b < a
  · rw [if_pos ((i32_lt ⟨h.2, h.1⟩).mpr c)]; congr 1; omega
  · rw [if_neg (fun z => c ((i32_lt ⟨h.2, h.1⟩).mp z))]; congr 1; omega
theorem i32_abs {a : Int} (h : -2147483648 ≤ a ∧ a ≤ 2147483647) : (if 0 ≤ i32 a then i32 a else 0 - i32 a) = i32 (if 0 ≤ a then a else -a) := by
  have e : (0 : Int32) = i32 0 := rfl
  by_cases c : 0 ≤ a
  · rw [if_pos (by rw [e, i32_le (by omega)]; exact c), if_pos c]
  · rw [if_neg (by rw [e, i32_le (by omega)]; exact c), if_neg c, e, i32_sub]; congr 1; omega
def lcmpI (a b : Int) : Int := if b < a then 1 else if a = b then 0 else -1
theorem i64_cmp {a b : Int} (h : (-9223372036854775808 ≤ a ∧ a ≤ 9223372036854775807) ∧ (-9223372036854775808 ≤ b ∧ b ≤ 9223372036854775807)) : lg_cmp (i64 a) (i64 b) = i32 (lcmpI a b) := by
  unfold lg_cmp lcmpI
  by_cases c : b < a
  · rw [if_pos ((i64_lt ⟨h.2, h.1⟩).mpr c), if_pos c]; rfl
  · rw [if_neg (fun z => c ((i64_lt ⟨h.2, h.1⟩).mp z)), if_neg c]
    by_cases c2 : a = b
    · rw [if_pos ((i64_eq h).mpr c2), if_pos c2]; rfl
    · rw [if_neg (fun z => c2 ((i64_eq h).mp z)), if_neg c2]; rfl
