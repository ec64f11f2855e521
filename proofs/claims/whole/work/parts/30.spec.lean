/-! the mathematics: kinds -/
def sp_holds (k f : Int) : Int := if k = 0 then 2 else if k = 2 then 3 else if k = 3 then 3 else if k = 6 then 3 + f / 3 else 1
def sp_needs (k f s : Int) : Int := if k = 0 then s + 4 else if k = 2 then 2 * (s + 4) else if k = 3 then s + 4 + f / 4 else if k = 6 then 2 * (s + 4) - 1 else if k = 7 then (s + 2) / 2 else s + 2
def sp_fright (k f : Int) : Int := if k = 0 then 3 else if k = 3 then 3 else if k = 2 then 3 + f / 2 else if k = 4 then 0 else if k = 6 then 2 * (3 + f / 2) else 2
def sp_bears (k f : Int) : Int := if k = 0 then 5 else if k = 3 then 5 else if k = 2 then 4 else if k = 6 then 4 else if k = 7 then 20 else 5 + f
def sp_passes (k : Int) : Int := if k = 2 then 0 else if k = 6 then 0 else if k = 4 then 2 else if k = 5 then 3 else 1
def sp_price (k f : Int) : Int := if k = 0 then 5 else if k = 1 then 5 + f else if k = 2 then 3 else if k = 3 then 10 else if k = 4 then 5 + f - 1 else if k = 5 then 5 + f + 4 else if k = 6 then 3 + f else (5 + f) / 2
/-- NEEDS as the class has it: 0 of one who swims -/
def sp_nd (k f s : Int) : Int := if s = 7 then 0 else sp_needs k f s
theorem sp_holds_r {k f : Int} (hf : 0 ≤ f ∧ f ≤ 9) : 1 ≤ sp_holds k f ∧ sp_holds k f ≤ 6 := by unfold sp_holds; omega
theorem sp_needs_r {k f s : Int} (hf : 0 ≤ f ∧ f ≤ 9) (hs : 0 ≤ s ∧ s ≤ 7) : 1 ≤ sp_needs k f s ∧ sp_needs k f s ≤ 22 := by unfold sp_needs; omega
theorem sp_nd_r {k f s : Int} (hf : 0 ≤ f ∧ f ≤ 9) (hs : 0 ≤ s ∧ s ≤ 7) : 0 ≤ sp_nd k f s ∧ sp_nd k f s ≤ 22 := by
  have := sp_needs_r (k := k) hf hs
  unfold sp_nd; omega
theorem sp_fright_r {k f : Int} (hf : 0 ≤ f ∧ f ≤ 9) : 0 ≤ sp_fright k f ∧ sp_fright k f ≤ 14 := by unfold sp_fright; omega
theorem sp_bears_r {k f : Int} (hf : 0 ≤ f ∧ f ≤ 9) : 4 ≤ sp_bears k f ∧ sp_bears k f ≤ 20 := by unfold sp_bears; omega
theorem sp_passes_r {k : Int} : 0 ≤ sp_passes k ∧ sp_passes k ≤ 3 := by unfold sp_passes; omega
theorem sp_price_r {k f : Int} (hf : 0 ≤ f ∧ f ≤ 9) : 0 ≤ sp_price k f ∧ sp_price k f ≤ 20 := by unfold sp_price; omega
/-! cells of the class's objects -/
def ktag (k : Int) : Nat := if k = 0 then 1 else if k = 1 then 0 else if k = 2 then 9 else if k = 3 then 10 else if k = 4 then 6 else if k = 5 then 4 else if k = 6 then 2 else 3
theorem ktag_in (k : Int) : [0, 1, 2, 3, 4, 6, 9, 10].contains (ktag k) = true := by
  unfold ktag
  repeat' split
  all_goals rfl
abbrev kfs (k f : Int) (b : Nat) : List Value := [.int (i32 f), .int (i32 k), .int (i32 (sp_holds k f)), .int (i32 (sp_fright k f)), .int (i32 (sp_bears k f)), .int (i32 (sp_passes k)), .int (i32 (sp_price k f)), .ref b]
def kneeds (k f : Int) : List Value := [.int (i32 (sp_needs k f 0)), .int (i32 (sp_needs k f 1)), .int (i32 (sp_needs k f 2)), .int (i32 (sp_needs k f 3)), .int (i32 (sp_needs k f 4)), .int (i32 (sp_needs k f 5)), .int (i32 (sp_needs k f 6)), .int (i32 0)]
theorem kneeds_get {k f s : Int} (hs : 0 ≤ s ∧ s ≤ 7) : (kneeds k f)[s.toNat]? = some (.int (i32 (sp_nd k f s))) := by
  rcases (show s = 0 ∨ s = 1 ∨ s = 2 ∨ s = 3 ∨ s = 4 ∨ s = 5 ∨ s = 6 ∨ s = 7 by omega) with rfl | rfl | rfl | rfl | rfl | rfl | rfl | rfl <;> rfl
/-- a KIND with a FIGURE stands at a (its NEEDS behind it) -/
def KindAt (h : Hp) (a : Nat) (k f : Int) : Prop := h.1 a = some (ktag k, kfs k f (a + 1)) ∧ h.1 (a + 1) = some (20, kneeds k f) ∧ (0 ≤ k ∧ k ≤ 7) ∧ (0 ≤ f ∧ f ≤ 9)
theorem KindAt.kept {h h2 : Hp} {a : Nat} {k f : Int} (K : KindAt h a k f) (h1 : h2.1 a = h.1 a) (h3 : h2.1 (a + 1) = h.1 (a + 1)) : KindAt h2 a k f := ⟨h1.trans K.1, h3.trans K.2.1, K.2.2⟩
abbrev pcell (kr : Nat) (t s c : Int) : OC := (5, [.ref kr, .int (i32 t), .int (i32 s), .int (i32 c)])
def sp_cl (z : Int) : Int := max 0 (min 20 z)
theorem sp_cl_r (z : Int) : 0 ≤ sp_cl z ∧ sp_cl z ≤ 20 := by unfold sp_cl; omega
def sp_ready (k f t s : Int) : Prop := s < 7 ∧ sp_needs k f s ≤ t
