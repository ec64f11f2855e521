/-! a KIND as it is made: two cells at a -/
def kh (h : Hp) (a : Nat) (x y : OC) : Hp := (fun q => if q = a then some x else if q = a + 1 then some y else h.1 q, a + 2, h.2.2 + 8)
theorem kh_1 (h : Hp) (a : Nat) (x y : OC) : (kh h a x y).1 a = some x := by simp [kh]
theorem kh_2 (h : Hp) (a : Nat) (x y : OC) : (kh h a x y).1 (a + 1) = some y := by simp [kh]
theorem kh_p1 (h : Hp) (a : Nat) (x y z : OC) : am_put (kh h a x y) a z = kh h a z y := by
  unfold am_put kh
  congr 1
  funext q
  by_cases c : q = a <;> simp [c]
theorem kh_p2 (h : Hp) (a : Nat) (x y z : OC) : am_put (kh h a x y) (a + 1) z = kh h a x z := by
  unfold am_put kh
  congr 1
  funext q
  by_cases c : q = a
  · simp [c]
  · by_cases c2 : q = a + 1 <;> simp [c, c2]
theorem kh_new {h : Hp} {a : Nat} {x : OC} (hp : h.1 a = some x) (hn : h.2.1 = a + 1) (y : OC) : am_new h y 8 = kh h a x y := by
  unfold am_new kh
  rw [hn]
  congr 1
  funext q
  by_cases c : q = a
  · subst c; simp [hp]
  · simp [c]
abbrev kn (g : Int → Int) : List Value := [.int (i32 (g 0)), .int (i32 (g 1)), .int (i32 (g 2)), .int (i32 (g 3)), .int (i32 (g 4)), .int (i32 (g 5)), .int (i32 (g 6)), .int (i32 0)]
abbrev kd : List Value := [.int (i32 0), .int (i32 0), .int (i32 0), .int (i32 0), .int (i32 0), .int (i32 0), .int (i32 0), .null]
theorem kt_facts {t : Nat} (h : t = 0 ∨ t = 1 ∨ t = 2 ∨ t = 3 ∨ t = 4 ∨ t = 6 ∨ t = 9 ∨ t = 10) : (∀ k, am_ty t k = tyX1 k) ∧ [0, 1, 2, 3, 4, 6, 9, 10].contains t = true := by
  rcases h with rfl | rfl | rfl | rfl | rfl | rfl | rfl | rfl <;> exact ⟨fun k => rfl, rfl⟩
theorem kt_pf {t : Nat} (M : Mth) (hM : M.1 = 1) (hi : M.2.1.name = "<init>") (h : t = 0 ∨ t = 1 ∨ t = 2 ∨ t = 3 ∨ t = 4 ∨ t = 6 ∨ t = 9 ∨ t = 10) : ∀ k, k < 8 → am_pf M t k = true := by
  intro k hk
  rcases h with rfl | rfl | rfl | rfl | rfl | rfl | rfl | rfl <;> rcases (show k = 0 ∨ k = 1 ∨ k = 2 ∨ k = 3 ∨ k = 4 ∨ k = 5 ∨ k = 6 ∨ k = 7 by omega) with rfl | rfl | rfl | rfl | rfl | rfl | rfl | rfl <;> simp only [am_pf, hM, hi] <;> rfl
theorem kt_pf2 {t : Nat} (M : Mth) (h : t = 0 ∨ t = 1 ∨ t = 2 ∨ t = 3 ∨ t = 4 ∨ t = 6 ∨ t = 9 ∨ t = 10) : ∀ k, 1 ≤ k → k < 7 → am_pf M t k = true := by
  intro k h1 h2
  rcases h with rfl | rfl | rfl | rfl | rfl | rfl | rfl | rfl <;> rcases (show k = 1 ∨ k = 2 ∨ k = 3 ∨ k = 4 ∨ k = 5 ∨ k = 6 by omega) with rfl | rfl | rfl | rfl | rfl | rfl <;> rfl
