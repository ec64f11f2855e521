/-! what the rails' methods say, on the numbers -/
def rdB (K F T S : Nat → Int) : Nat → Bool := fun j => decide (S j < 7 ∧ sp_needs (K j) (F j) (S j) ≤ T j)
def swB (S : Nat → Int) : Nat → Bool := fun j => decide (S j = 7)
def fgB (K F T S : Nat → Int) : Nat → Bool := fun j => decide (S j < 7 ∧ sp_needs (K j) (F j) (S j) + 3 ≤ min 20 (T j + sp_holds (K j) (F j) / 2 + 1))
def anyB (p : Nat → Bool) (c : Nat) : Nat → Bool
  | 0 => false
  | k + 1 => p c || anyB p (c + 1) k
theorem and_bit : ∀ c, c < 8 → ∀ a : Nat, a < 256 → i32 (a : Int) &&& i32 ((2 : Int) ^ c) = i32 (if a.testBit c then (2 : Int) ^ c else 0) := by decide +kernel
theorem pow2_pos (c : Nat) : (0 : Int) < 2 ^ c := Int.pow_pos (by omega)
theorem pow2_s (c : Nat) : (2 : Int) ^ (c + 1) = 2 ^ c * 2 := Int.pow_succ 2 c
/-- what one sees of others who are further: 1, and 1 more if one of them stands beside -/
def shg (S : Nat → Int) (c : Nat) : Nat → Int
  | 0 => 0
  | o + 1 => if S c < S o then max (shg S c o) (if o = c + 1 ∨ o + 1 = c then 2 else 1) else shg S c o
theorem shg_r (S : Nat → Int) (c : Nat) : ∀ o, 0 ≤ shg S c o ∧ shg S c o ≤ 2
  | 0 => by simp [shg]
  | o + 1 => by
    have := shg_r S c o
    simp only [shg]
    split
    · split <;> omega
    · exact this
def psT (n c : Nat) (v : Int) (T : Nat → Int) : Nat → Int := fun j => if (j + 1 = c ∨ j = c + 1) ∧ j < n then sp_cl (T j + v) else T j
/-- a break of w weeks, the first c of them -/
def brT (w : Int) (c : Nat) (T : Nat → Int) : Nat → Int := fun j => if j < c then sp_cl (T j - w) else T j
def brS (w : Int) (c : Nat) (S : Nat → Int) : Nat → Int := fun j => if j < c then (if S j = 7 then 7 else max 0 (S j - w / 3)) else S j
def brC (c : Nat) (C : Nat → Int) : Nat → Int := fun j => if j < c then 0 else C j
/-- the first c of g's, f's behind -/
def mixN (c : Nat) (g f : Nat → Nat) : Nat → Nat := fun j => if j < c then g j else f j
def mix (c : Nat) (g f : Nat → Int) : Nat → Int := fun j => if j < c then g j else f j
/-- the cold of a minute with c: the first o of them -/
def coT (n c o : Nat) (K F S C T : Nat → Int) : Nat → Int := fun j => if j < o ∧ j ≠ c ∧ S j < 7 ∧ sp_bears (K j) (F j) < min 20 (C j + 1) then sp_cl (T j - 1) else T j
def coC (n c o : Nat) (K F S C : Nat → Int) : Nat → Int := fun j => if j < o ∧ j ≠ c ∧ S j < 7 then (if sp_bears (K j) (F j) < min 20 (C j + 1) then 0 else min 20 (C j + 1)) else C j
/-- a MINUTE with c by a way: trust ahead of the cold -/
def mnT (n c : Nat) (way : Int) (K F T S : Nat → Int) : Nat → Int :=
  if way = 3 then fu T c (sp_cl (T c + shg S c n))
  else if way = 2 then psT n c (if sp_needs (K c) (F c) (S c) ≤ T c then sp_passes (K c) else - sp_passes (K c)) (fu T c (sp_mt (K c) (F c) way (T c) (S c)))
  else fu T c (sp_mt (K c) (F c) way (T c) (S c))
def mnS (c : Nat) (way : Int) (K F T S : Nat → Int) : Nat → Int := if way = 3 then S else fu S c (sp_ms (K c) (F c) way (T c) (S c))
/-- is the minute a SWALLOW? -/
def mnW (c : Nat) (way : Int) (K F T S : Nat → Int) : Int := if way = 2 ∧ T c < sp_needs (K c) (F c) (S c) then 1 else 0
def minT (n c : Nat) (way : Int) (K F T S C : Nat → Int) : Nat → Int := coT n c n K F (mnS c way K F T S) C (mnT n c way K F T S)
def minC (n c : Nat) (way : Int) (K F T S C : Nat → Int) : Nat → Int := coC n c n K F (mnS c way K F T S) C
