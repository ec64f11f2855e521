/-! rows -/
abbrev ia (xs : List Int) : List Value := xs.map (fun z => .int (i32 z))
theorem ia_get {xs : List Int} {i : Nat} (h : i < xs.length) : (ia xs)[i]? = some (.int (i32 (xs.getD i 0))) := by
  simp [ia, h, List.getD_eq_getElem?_getD]
theorem ia_len (xs : List Int) : (ia xs).length = xs.length := by simp [ia]
theorem ia_set {xs : List Int} {i : Nat} {z : Int} : (ia xs).set i (.int (i32 z)) = ia (xs.set i z) := by simp [ia, List.map_set]
theorem ia_all (xs : List Int) : (ia xs).all am_isI = true := by simp [ia, am_isI]
/-- a ROW at a: its SORT, its elements (behind it) -/
def RowAt (h : Hp) (a : Nat) (so : Int) (xs : List Int) : Prop := h.1 a = some (8, [.int (i32 so), .ref (a + 1)]) ∧ h.1 (a + 1) = some (20, ia xs) ∧ (0 ≤ so ∧ so ≤ 2) ∧ xs.length ≤ 100 ∧ ∀ z ∈ xs, -2147483648 ≤ z ∧ z ≤ 2147483647
theorem RowAt.kept {h h2 : Hp} {a : Nat} {so : Int} {xs : List Int} (K : RowAt h a so xs) (h1 : h2.1 a = h.1 a) (h3 : h2.1 (a + 1) = h.1 (a + 1)) : RowAt h2 a so xs := ⟨h1.trans K.1, h3.trans K.2.1, K.2.2⟩
/-- an element, 0 outside -/
def gx (xs : List Int) (i : Int) : Int := if 0 ≤ i ∧ i < (xs.length : Int) then xs.getD i.toNat 0 else 0
theorem gx_r {xs : List Int} (hx : ∀ z ∈ xs, -2147483648 ≤ z ∧ z ≤ 2147483647) (i : Int) : -2147483648 ≤ gx xs i ∧ gx xs i ≤ 2147483647 := by
  unfold gx
  split
  · rename_i h
    have hl : i.toNat < xs.length := by omega
    rw [List.getD_eq_getElem?_getD, List.getElem?_eq_getElem hl]
    exact hx _ (List.getElem_mem hl)
  · omega
def nrw (so z : Int) : Int := if so = 0 then (i32 z).toInt8.toInt else if so = 1 then (i32 z).toInt16.toInt else z
theorem i2b_i (x : Int32) : x.toInt8.toInt32 = i32 x.toInt8.toInt := by
  apply Int32.toInt_inj.mp
  have h1 := Int8.le_toInt x.toInt8
  have h2 := Int8.toInt_lt x.toInt8
  rw [Int8.toInt_toInt32, i32_toInt (by omega)]
theorem i2s_i (x : Int32) : x.toInt16.toInt32 = i32 x.toInt16.toInt := by
  apply Int32.toInt_inj.mp
  have h1 := Int16.le_toInt x.toInt16
  have h2 := Int16.toInt_lt x.toInt16
  rw [Int16.toInt_toInt32, i32_toInt (by omega)]
theorem nrw_r {so z : Int} (hz : -2147483648 ≤ z ∧ z ≤ 2147483647) : -2147483648 ≤ nrw so z ∧ nrw so z ≤ 2147483647 := by
  have h1 := Int8.le_toInt (i32 z).toInt8
  have h2 := Int8.toInt_lt (i32 z).toInt8
  have h3 := Int16.le_toInt (i32 z).toInt16
  have h4 := Int16.toInt_lt (i32 z).toInt16
  unfold nrw
  split
  · omega
  · split <;> omega
/-- digits behind a letter -/
def dB (z : Int) : Int := if z = 98 then 1 else if z = 99 then 4 else if z = 109 then 2 else if z = 115 then 2 else if z = 116 then 3 else if z = 120 then 2 else -1
theorem dB_r (z : Int) : -1 ≤ dB z ∧ dB z ≤ 4 := by unfold dB; repeat' split
                                                    all_goals omega
/-- where a text goes wrong, from i on, k more, with digits due (-1: a letter) -/
def msh (xs : List Int) (i : Nat) (due : Int) : Nat → Int
  | 0 => if due = -1 ∧ 0 < xs.length then -1 else (xs.length : Int)
  | k + 1 =>
    if due = -1 then (if dB (xs.getD i 0) = -1 then (i : Int) else msh xs (i + 1) (dB (xs.getD i 0)) k)
    else if 0 < due then (if 48 ≤ xs.getD i 0 ∧ xs.getD i 0 ≤ 57 then msh xs (i + 1) (due - 1) k else (i : Int))
    else (if xs.getD i 0 = 59 then msh xs (i + 1) (-1) k else (i : Int))
def lst (so : Int) : Int := if so = 0 then -128 else if so = 1 then -32768 else -2147483648
