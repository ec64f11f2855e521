/-! the class's own object: x, and its cells up to x + 57 (by program: wip/whole/spec_l.py) -/
def fa (n : Nat) (f : Nat → Int) : List Value := (List.range n).map (fun i => .int (i32 (f i)))
theorem fa_len (n : Nat) (f : Nat → Int) : (fa n f).length = n := by simp [fa]
theorem fa_get {n i : Nat} {f : Nat → Int} (h : i < n) : (fa n f)[i]? = some (.int (i32 (f i))) := by simp [fa, h]
theorem fa_set {n i : Nat} {f : Nat → Int} {v : Int} : (fa n f).set i (.int (i32 v)) = fa n (fu f i v) := by
  apply List.ext_getElem?
  intro j
  rw [List.getElem?_set]
  simp only [fa_len]
  by_cases hj : j < n
  · rw [fa_get hj]
    by_cases e : i = j
    · subst e; rw [if_pos rfl, if_pos hj, fa_get hj, fu_at]
    · rw [if_neg e, fa_get hj, fu_ne (Ne.symm e)]
  · rw [List.getElem?_eq_none (by rw [fa_len]; omega)]
    by_cases e : i = j
    · subst e; rw [if_pos rfl, if_neg hj, List.getElem?_eq_none (by rw [fa_len]; omega)]
    · rw [if_neg e, List.getElem?_eq_none (by rw [fa_len]; omega)]
theorem fa_cg {n : Nat} {f g : Nat → Int} (h : ∀ i, i < n → f i = g i) : fa n f = fa n g := by
  apply List.ext_getElem?
  intro j
  by_cases hj : j < n
  · rw [fa_get hj, fa_get hj, h j hj]
  · rw [List.getElem?_eq_none (by rw [fa_len]; omega), List.getElem?_eq_none (by rw [fa_len]; omega)]
theorem fa_all (n : Nat) (f : Nat → Int) : (fa n f).all am_isI = true := by simp [fa, am_isI]
theorem fa_rep (n : Nat) : List.replicate n (Value.int (i32 0)) = fa n (fun _ => 0) := by
  apply List.ext_getElem?
  intro j
  by_cases hj : j < n
  · rw [fa_get hj, List.getElem?_replicate, if_pos hj]
  · rw [List.getElem?_eq_none (by rw [List.length_replicate]; omega), List.getElem?_eq_none (by rw [fa_len]; omega)]
abbrev va8 (f : Nat → Value) : List Value := [f 0, f 1, f 2, f 3, f 4, f 5, f 6, f 7]
theorem va8_get {f : Nat → Value} {i : Nat} (h : i < 8) : (va8 f)[i]? = some (f i) := by
  rcases (show i = 0 ∨ i = 1 ∨ i = 2 ∨ i = 3 ∨ i = 4 ∨ i = 5 ∨ i = 6 ∨ i = 7 by omega) with rfl | rfl | rfl | rfl | rfl | rfl | rfl | rfl <;> rfl
def fuV (f : Nat → Value) (i : Nat) (v : Value) : Nat → Value := fun j => if j = i then v else f j
theorem va8_set {f : Nat → Value} {i : Nat} {v : Value} (h : i < 8) : (va8 f).set i v = va8 (fuV f i v) := by
  rcases (show i = 0 ∨ i = 1 ∨ i = 2 ∨ i = 3 ∨ i = 4 ∨ i = 5 ∨ i = 6 ∨ i = 7 by omega) with rfl | rfl | rfl | rfl | rfl | rfl | rfl | rfl <;> rfl
abbrev ccell (x : Nat) (hi bs : Int) : OC := (11, [.ref (x + 10), .ref (x + 19), .int (i32 hi), .ref (x + 1), .ref (x + 55), .ref (x + 56), .ref (x + 2), .ref (x + 3), .ref (x + 4), .ref (x + 5), .int (i32 bs), .ref (x + 6), .ref (x + 7)])
def RailAny (h : Hp) (r : Nat) : Prop := ∃ (n : Nat) (m tu : Int) (kr : Nat → Nat) (T S C : Nat → Int), RailAt h r n m tu kr T S C
def PupAny (h : Hp) (a : Nat) : Prop := ∃ (k : Nat) (t s c : Int), h.1 a = some (pcell k t s c)
/-- what the class's object keeps to itself: where things lie; the rails that questions are tried on, the rows for ways and orders -/
def Scr (h : Hp) (x : Nat) (hi : Int) : Prop := (∃ bs, h.1 x = some (ccell x hi bs)) ∧ h.1 (x + 1) = some (22, [.ref (x + 28), .ref (x + 37), .ref (x + 46)]) ∧ (∃ f, h.1 (x + 2) = some (20, fa 168 f)) ∧ (∃ f, h.1 (x + 3) = some (20, fa 168 f)) ∧ (∃ f, h.1 (x + 4) = some (20, fa 6 f)) ∧ (∃ f, h.1 (x + 5) = some (20, fa 6 f)) ∧ RailAny h (x + 28) ∧ RailAny h (x + 37) ∧ RailAny h (x + 46) ∧ PupAny h (x + 55) ∧ PupAny h (x + 56)
/-- only such cells have changed, none is new -/
def FrS (h h1 : Hp) (x : Nat) : Prop := h1.2 = h.2 ∧ ∀ q, ¬ (q = x ∨ (x + 2 ≤ q ∧ q < x + 6) ∨ (x + 28 ≤ q ∧ q < x + 57)) → h1.1 q = h.1 q
theorem FrS.rf (h : Hp) (x : Nat) : FrS h h x := ⟨rfl, fun _ _ => rfl⟩
theorem FrS.trans {h h1 h2 : Hp} {x : Nat} (a : FrS h h1 x) (b : FrS h1 h2 x) : FrS h h2 x := ⟨b.1.trans a.1, fun q hq => (b.2 q hq).trans (a.2 q hq)⟩
theorem Fr.frS {h h1 : Hp} {x lo hi : Nat} (f : Fr h h1 lo hi) (ha : ∀ q, lo ≤ q → q < hi → (q = x ∨ (x + 2 ≤ q ∧ q < x + 6) ∨ (x + 28 ≤ q ∧ q < x + 57))) : FrS h h1 x := ⟨f.1, fun q hq => f.2 q (by
  by_cases c : lo ≤ q ∧ q < hi
  · exact absurd (ha q c.1 c.2) hq
  · omega)⟩
theorem RailAny.eq {h h1 : Hp} {r : Nat} (R : RailAny h r) (e : ∀ q, r ≤ q → q < r + 9 → h1.1 q = h.1 q) : RailAny h1 r := by
  obtain ⟨n, m, tu, kr, T, S, C, a1, a2, a3, a4, a5⟩ := R
  refine ⟨n, m, tu, kr, T, S, C, (e _ (by omega) (by omega)).trans a1, (e _ (by omega) (by omega)).trans a2, fun i hi => (e _ (by omega) (by omega)).trans (a3 i hi), fun i hi => ?_, a5⟩
  obtain ⟨k, t, s, c, z⟩ := a4 i hi
  exact ⟨k, t, s, c, (e _ (by omega) (by omega)).trans z⟩
theorem PupAny.eq {h h1 : Hp} {a : Nat} (R : PupAny h a) (e : h1.1 a = h.1 a) : PupAny h1 a := by
  obtain ⟨k, t, s, c, z⟩ := R
  exact ⟨k, t, s, c, e.trans z⟩
theorem Scr.eq {h h1 : Hp} {x : Nat} {hi : Int} (Z : Scr h x hi) (e : ∀ q, (x ≤ q ∧ q < x + 6) ∨ (x + 28 ≤ q ∧ q < x + 57) → h1.1 q = h.1 q) : Scr h1 x hi := by
  obtain ⟨⟨bs, z0⟩, z1, ⟨f2, z2⟩, ⟨f3, z3⟩, ⟨f4, z4⟩, ⟨f5, z5⟩, a, b, c, p, q⟩ := Z
  exact ⟨⟨bs, (e _ (by omega)).trans z0⟩, (e _ (by omega)).trans z1, ⟨f2, (e _ (by omega)).trans z2⟩, ⟨f3, (e _ (by omega)).trans z3⟩, ⟨f4, (e _ (by omega)).trans z4⟩, ⟨f5, (e _ (by omega)).trans z5⟩, a.eq (fun q _ _ => e q (by omega)), b.eq (fun q _ _ => e q (by omega)), c.eq (fun q _ _ => e q (by omega)), p.eq (e _ (by omega)), q.eq (e _ (by omega))⟩
theorem Scr.t0 {h h1 : Hp} {x : Nat} {hi : Int} (Z : Scr h x hi) (f : Fr h h1 (x + 28) (x + 37)) (r : RailAny h1 (x + 28)) : Scr h1 x hi := by
  obtain ⟨⟨bs, z0⟩, z1, ⟨f2, z2⟩, ⟨f3, z3⟩, ⟨f4, z4⟩, ⟨f5, z5⟩, a, b, c, p, q⟩ := Z
  exact ⟨⟨bs, (f.2 _ (by omega)).trans z0⟩, (f.2 _ (by omega)).trans z1, ⟨f2, (f.2 _ (by omega)).trans z2⟩, ⟨f3, (f.2 _ (by omega)).trans z3⟩, ⟨f4, (f.2 _ (by omega)).trans z4⟩, ⟨f5, (f.2 _ (by omega)).trans z5⟩, r, b.eq (fun q _ _ => f.2 q (by omega)), c.eq (fun q _ _ => f.2 q (by omega)), p.eq (f.2 _ (by omega)), q.eq (f.2 _ (by omega))⟩
theorem Scr.t1 {h h1 : Hp} {x : Nat} {hi : Int} (Z : Scr h x hi) (f : Fr h h1 (x + 37) (x + 46)) (r : RailAny h1 (x + 37)) : Scr h1 x hi := by
  obtain ⟨⟨bs, z0⟩, z1, ⟨f2, z2⟩, ⟨f3, z3⟩, ⟨f4, z4⟩, ⟨f5, z5⟩, a, b, c, p, q⟩ := Z
  exact ⟨⟨bs, (f.2 _ (by omega)).trans z0⟩, (f.2 _ (by omega)).trans z1, ⟨f2, (f.2 _ (by omega)).trans z2⟩, ⟨f3, (f.2 _ (by omega)).trans z3⟩, ⟨f4, (f.2 _ (by omega)).trans z4⟩, ⟨f5, (f.2 _ (by omega)).trans z5⟩, a.eq (fun q _ _ => f.2 q (by omega)), r, c.eq (fun q _ _ => f.2 q (by omega)), p.eq (f.2 _ (by omega)), q.eq (f.2 _ (by omega))⟩
theorem Scr.t2 {h h1 : Hp} {x : Nat} {hi : Int} (Z : Scr h x hi) (f : Fr h h1 (x + 46) (x + 55)) (r : RailAny h1 (x + 46)) : Scr h1 x hi := by
  obtain ⟨⟨bs, z0⟩, z1, ⟨f2, z2⟩, ⟨f3, z3⟩, ⟨f4, z4⟩, ⟨f5, z5⟩, a, b, c, p, q⟩ := Z
  exact ⟨⟨bs, (f.2 _ (by omega)).trans z0⟩, (f.2 _ (by omega)).trans z1, ⟨f2, (f.2 _ (by omega)).trans z2⟩, ⟨f3, (f.2 _ (by omega)).trans z3⟩, ⟨f4, (f.2 _ (by omega)).trans z4⟩, ⟨f5, (f.2 _ (by omega)).trans z5⟩, a.eq (fun q _ _ => f.2 q (by omega)), b.eq (fun q _ _ => f.2 q (by omega)), r, p.eq (f.2 _ (by omega)), q.eq (f.2 _ (by omega))⟩
theorem RailAt.any {h : Hp} {r n : Nat} {m tu : Int} {kr : Nat → Nat} {T S C : Nat → Int} (R : RailAt h r n m tu kr T S C) : RailAny h r := ⟨n, m, tu, kr, T, S, C, R⟩
theorem RailAt.frS {h h1 : Hp} {x n : Nat} {m tu : Int} {kr : Nat → Nat} {T S C : Nat → Int} (R : RailAt h (x + 10) n m tu kr T S C) (f : FrS h h1 x) : RailAt h1 (x + 10) n m tu kr T S C := by
  obtain ⟨a1, a2, a3, a4, a5⟩ := R
  refine ⟨(f.2 _ (by omega)).trans a1, (f.2 _ (by omega)).trans a2, fun i hi => (f.2 _ (by omega)).trans (a3 i hi), fun i hi => ?_, a5⟩
  obtain ⟨k, t, s, c, e⟩ := a4 i hi
  exact ⟨k, t, s, c, (f.2 _ (by omega)).trans e⟩
theorem KY.frS {h h1 : Hp} {x y n : Nat} {kr : Nat → Nat} {K F : Nat → Int} (k : KY h y n kr K F) (f : FrS h h1 x) (hy : x + 57 ≤ y) : KY h1 y n kr K F := fun i hi => ⟨(k i hi).1.kept (f.2 _ (by have := (k i hi).2; omega)) (f.2 _ (by have := (k i hi).2; omega)), (k i hi).2⟩
/-- the SHELVES: hw 0 nothing, 1 a KIND, 2 a ROW; where it lies -/
def kv (hw : Nat → Int) (sa : Nat → Nat) : Nat → Value := fun j => if hw j = 1 then .ref (sa j) else .null
def rv (hw : Nat → Int) (sa : Nat → Nat) : Nat → Value := fun j => if hw j = 2 then .ref (sa j) else .null
def ShO (h : Hp) (y d : Nat) (hw ck cf rs : Nat → Int) (rx : Nat → List Int) (sa : Nat → Nat) : Prop := (hw d = 0 ∨ hw d = 1 ∨ hw d = 2) ∧ (hw d = 1 → KindAt h (sa d) (ck d) (cf d)) ∧ (hw d = 2 → RowAt h (sa d) (rs d) (rx d)) ∧ (hw d ≠ 0 → y ≤ sa d)
def Shv (h : Hp) (x y : Nat) (hw ck cf rs : Nat → Int) (rx : Nat → List Int) (sa : Nat → Nat) : Prop := h.1 (x + 6) = some (24, va8 (kv hw sa)) ∧ h.1 (x + 7) = some (25, va8 (rv hw sa)) ∧ (∀ d, d < 8 → ShO h y d hw ck cf rs rx sa) ∧ ∀ d e, d < 8 → e < 8 → d ≠ e → hw d = 2 → hw e = 2 → sa d ≠ sa e
/-- the refusal where a KIND (1), a ROW (2) is wanted -/
def why (hw : Nat → Int) (d : Int) : Int := if 0 ≤ d ∧ d ≤ 7 then (if hw d.toNat = 0 then -11 else -12) else -1
theorem x11_isShelf {E : am_E} {d : Nat} {h : Hp} {a : Int}  (ha : (-2147483648 ≤ a ∧ a ≤ 2147483647))  : Ex E (d + 1) mX11_isShelf 0 [.int (i32 a)] [] h (fun r1 h1 => r1 = some (.int (i32 (if 0 ≤ a ∧ a ≤ 7 then 1 else 0))) ∧ h1 = h) := by
  refine Ex_iload_n dX11_isShelf_0 rfl rfl ?_
  refine Ex_iconst dX11_isShelf_1 rfl ?_
  refine Ex_bipush dX11_isShelf_2 rfl (by decide) ?_
  refine Ex_stat 0 dX11_isShelf_4 rfl rfl (Or.inl rfl) rfl rfl rfl rfl rfl rfl (Ex_post (x11_within (by omega)) ?_)
  rintro _ _ ⟨rfl, e0⟩
  obtain rfl := Eq.symm e0
  refine Ex_iret dX11_isShelf_7 rfl (by (repeat' split) <;> rfl) ?_
  exact ⟨rfl, rfl⟩
theorem x11_rowOn {E : am_E} {d : Nat} {h : Hp} {x y : Nat} {hi : Int} {hw ck cf rs : Nat → Int} {rx : Nat → List Int} {sa : Nat → Nat} {a : Int}  (Z : Scr h x hi) (V : Shv h x y hw ck cf rs rx sa) (ha : (-2147483648 ≤ a ∧ a ≤ 2147483647))  : Ex E (d + 2) mX11_rowOn 0 [.ref x, .int (i32 a)] [] h (fun r1 h1 => r1 = some (if (0 ≤ a ∧ a ≤ 7) then rv hw sa a.toNat else .null) ∧ h1 = h) := by
  obtain ⟨⟨bs, z0⟩, z1, z2⟩ := id Z
  obtain ⟨v1, v2, v3, v4⟩ := id V
  by_cases q : 0 ≤ a ∧ a ≤ 7
  · rw [if_pos q]
    have hv0 : (rv hw sa a.toNat = .null) ∨ ∃ b, rv hw sa a.toNat = .ref b := by
      unfold rv
      split
      · exact Or.inr ⟨_, rfl⟩
      · exact Or.inl rfl
    rcases hv0 with hv0 | ⟨b0, hv0⟩
    · rw [hv0]
      refine Ex_iload_n dX11_rowOn_0 rfl rfl ?_
      refine Ex_stat 0 dX11_rowOn_1 rfl rfl (Or.inl rfl) rfl rfl rfl rfl rfl rfl (Ex_post (x11_isShelf (by omega)) ?_)
      rintro _ _ ⟨rfl, e0⟩
      obtain rfl := Eq.symm e0
      refine Ex_if_eq (t := 16) dX11_rowOn_4 rfl rfl (by first | omega | (rw [if_pos (by omega)]; omega) | (rw [if_neg (by omega)]; omega)) (fun c4 => absurd c4 (by first | omega | (rw [if_pos q] at c4; omega) | (rw [if_neg q] at c4; omega))) (fun c4 => ?_)
      refine Ex_aload_n dX11_rowOn_7 rfl rfl ?_
      refine Ex_getf dX11_rowOn_8 rfl (by first | exact z0 | exact v1 | exact v2) rfl rfl rfl ?_
      refine Ex_iload_n dX11_rowOn_11 rfl rfl ?_
      refine Ex_aald dX11_rowOn_12 rfl (by first | exact z0 | exact v1 | exact v2) (by omega) (by omega) (by rw [va8_get (show (a.toNat : Nat) < 8 by omega), hv0]) ?_
      refine Ex_goto (t := 17) dX11_rowOn_13 rfl ?_
      refine Ex_aret dX11_rowOn_17 rfl rfl ?_
      exact ⟨rfl, rfl⟩
    · rw [hv0]
      refine Ex_iload_n dX11_rowOn_0 rfl rfl ?_
      refine Ex_stat 0 dX11_rowOn_1 rfl rfl (Or.inl rfl) rfl rfl rfl rfl rfl rfl (Ex_post (x11_isShelf (by omega)) ?_)
      rintro _ _ ⟨rfl, e0⟩
      obtain rfl := Eq.symm e0
      refine Ex_if_eq (t := 16) dX11_rowOn_4 rfl rfl (by first | omega | (rw [if_pos (by omega)]; omega) | (rw [if_neg (by omega)]; omega)) (fun c4 => absurd c4 (by first | omega | (rw [if_pos q] at c4; omega) | (rw [if_neg q] at c4; omega))) (fun c4 => ?_)
      refine Ex_aload_n dX11_rowOn_7 rfl rfl ?_
      refine Ex_getf dX11_rowOn_8 rfl (by first | exact z0 | exact v1 | exact v2) rfl rfl rfl ?_
      refine Ex_iload_n dX11_rowOn_11 rfl rfl ?_
      refine Ex_aald dX11_rowOn_12 rfl (by first | exact z0 | exact v1 | exact v2) (by omega) (by omega) (by rw [va8_get (show (a.toNat : Nat) < 8 by omega), hv0]) ?_
      refine Ex_goto (t := 17) dX11_rowOn_13 rfl ?_
      refine Ex_aret dX11_rowOn_17 rfl rfl ?_
      exact ⟨rfl, rfl⟩
  · rw [if_neg q]
    refine Ex_iload_n dX11_rowOn_0 rfl rfl ?_
    refine Ex_stat 0 dX11_rowOn_1 rfl rfl (Or.inl rfl) rfl rfl rfl rfl rfl rfl (Ex_post (x11_isShelf (by omega)) ?_)
    rintro _ _ ⟨rfl, e0⟩
    obtain rfl := Eq.symm e0
    refine Ex_if_eq (t := 16) dX11_rowOn_4 rfl rfl (by first | omega | (rw [if_pos (by omega)]; omega) | (rw [if_neg (by omega)]; omega)) (fun c4 => ?_) (fun c4 => absurd c4 (by first | omega | (rw [if_pos q] at c4; omega) | (rw [if_neg q] at c4; omega)))
    refine Ex_null dX11_rowOn_16 rfl ?_
    refine Ex_aret dX11_rowOn_17 rfl rfl ?_
    exact ⟨rfl, rfl⟩
theorem x11_kindOn {E : am_E} {d : Nat} {h : Hp} {x y : Nat} {hi : Int} {hw ck cf rs : Nat → Int} {rx : Nat → List Int} {sa : Nat → Nat} {a : Int}  (Z : Scr h x hi) (V : Shv h x y hw ck cf rs rx sa) (ha : (-2147483648 ≤ a ∧ a ≤ 2147483647))  : Ex E (d + 2) mX11_kindOn 0 [.ref x, .int (i32 a)] [] h (fun r1 h1 => r1 = some (if (0 ≤ a ∧ a ≤ 7) then kv hw sa a.toNat else .null) ∧ h1 = h) := by
  obtain ⟨⟨bs, z0⟩, z1, z2⟩ := id Z
  obtain ⟨v1, v2, v3, v4⟩ := id V
  by_cases q : 0 ≤ a ∧ a ≤ 7
  · rw [if_pos q]
    have hv0 : (kv hw sa a.toNat = .null) ∨ ∃ b, kv hw sa a.toNat = .ref b := by
      unfold kv
      split
      · exact Or.inr ⟨_, rfl⟩
      · exact Or.inl rfl
    rcases hv0 with hv0 | ⟨b0, hv0⟩
    · rw [hv0]
      refine Ex_iload_n dX11_kindOn_0 rfl rfl ?_
      refine Ex_stat 0 dX11_kindOn_1 rfl rfl (Or.inl rfl) rfl rfl rfl rfl rfl rfl (Ex_post (x11_isShelf (by omega)) ?_)
      rintro _ _ ⟨rfl, e0⟩
      obtain rfl := Eq.symm e0
      refine Ex_if_eq (t := 16) dX11_kindOn_4 rfl rfl (by first | omega | (rw [if_pos (by omega)]; omega) | (rw [if_neg (by omega)]; omega)) (fun c4 => absurd c4 (by first | omega | (rw [if_pos q] at c4; omega) | (rw [if_neg q] at c4; omega))) (fun c4 => ?_)
      refine Ex_aload_n dX11_kindOn_7 rfl rfl ?_
      refine Ex_getf dX11_kindOn_8 rfl (by first | exact z0 | exact v1 | exact v2) rfl rfl rfl ?_
      refine Ex_iload_n dX11_kindOn_11 rfl rfl ?_
      refine Ex_aald dX11_kindOn_12 rfl (by first | exact z0 | exact v1 | exact v2) (by omega) (by omega) (by rw [va8_get (show (a.toNat : Nat) < 8 by omega), hv0]) ?_
      refine Ex_goto (t := 17) dX11_kindOn_13 rfl ?_
      refine Ex_aret dX11_kindOn_17 rfl rfl ?_
      exact ⟨rfl, rfl⟩
    · rw [hv0]
      refine Ex_iload_n dX11_kindOn_0 rfl rfl ?_
      refine Ex_stat 0 dX11_kindOn_1 rfl rfl (Or.inl rfl) rfl rfl rfl rfl rfl rfl (Ex_post (x11_isShelf (by omega)) ?_)
      rintro _ _ ⟨rfl, e0⟩
      obtain rfl := Eq.symm e0
      refine Ex_if_eq (t := 16) dX11_kindOn_4 rfl rfl (by first | omega | (rw [if_pos (by omega)]; omega) | (rw [if_neg (by omega)]; omega)) (fun c4 => absurd c4 (by first | omega | (rw [if_pos q] at c4; omega) | (rw [if_neg q] at c4; omega))) (fun c4 => ?_)
      refine Ex_aload_n dX11_kindOn_7 rfl rfl ?_
      refine Ex_getf dX11_kindOn_8 rfl (by first | exact z0 | exact v1 | exact v2) rfl rfl rfl ?_
      refine Ex_iload_n dX11_kindOn_11 rfl rfl ?_
      refine Ex_aald dX11_kindOn_12 rfl (by first | exact z0 | exact v1 | exact v2) (by omega) (by omega) (by rw [va8_get (show (a.toNat : Nat) < 8 by omega), hv0]) ?_
      refine Ex_goto (t := 17) dX11_kindOn_13 rfl ?_
      refine Ex_aret dX11_kindOn_17 rfl rfl ?_
      exact ⟨rfl, rfl⟩
  · rw [if_neg q]
    refine Ex_iload_n dX11_kindOn_0 rfl rfl ?_
    refine Ex_stat 0 dX11_kindOn_1 rfl rfl (Or.inl rfl) rfl rfl rfl rfl rfl rfl (Ex_post (x11_isShelf (by omega)) ?_)
    rintro _ _ ⟨rfl, e0⟩
    obtain rfl := Eq.symm e0
    refine Ex_if_eq (t := 16) dX11_kindOn_4 rfl rfl (by first | omega | (rw [if_pos (by omega)]; omega) | (rw [if_neg (by omega)]; omega)) (fun c4 => ?_) (fun c4 => absurd c4 (by first | omega | (rw [if_pos q] at c4; omega) | (rw [if_neg q] at c4; omega)))
    refine Ex_null dX11_kindOn_16 rfl ?_
    refine Ex_aret dX11_kindOn_17 rfl rfl ?_
    exact ⟨rfl, rfl⟩
theorem x11_isEmpty {E : am_E} {d : Nat} {h : Hp} {x y : Nat} {hi : Int} {hw ck cf rs : Nat → Int} {rx : Nat → List Int} {sa : Nat → Nat} {d0 : Nat}  (Z : Scr h x hi) (V : Shv h x y hw ck cf rs rx sa) (hd : d0 < 8)  : Ex E (d + 3) mX11_isEmpty 0 [.ref x, .int (i32 (d0 : Int))] [] h (fun r1 h1 => r1 = some (.int (i32 (if hw d0 = 0 then 1 else 0))) ∧ h1 = h) := by
  obtain ⟨⟨bs, z0⟩, z1, z2⟩ := id Z
  obtain ⟨v1, v2, v3, v4⟩ := id V
  obtain ⟨s1, s2, s3, s4⟩ := v3 d0 hd
  rcases s1 with q | q | q
  · have e1 : (if (0 ≤ (d0 : Int) ∧ (d0 : Int) ≤ 7) then rv hw sa (d0 : Int).toNat else .null) = .null := by rw [if_pos (by omega)]; unfold rv; simp [q]
    have e2 : (if (0 ≤ (d0 : Int) ∧ (d0 : Int) ≤ 7) then kv hw sa (d0 : Int).toNat else .null) = .null := by rw [if_pos (by omega)]; unfold kv; simp [q]
    refine Ex_aload_n dX11_isEmpty_0 rfl rfl ?_
    refine Ex_iload_n dX11_isEmpty_1 rfl rfl ?_
    refine Ex_inv 2 dX11_isEmpty_2 rfl rfl (Or.inl rfl) rfl rfl rfl rfl z0 rfl rfl rfl (Ex_post (x11_rowOn Z V (by omega)) ?_)
    rintro _ _ ⟨rfl, e0⟩
    obtain rfl := Eq.symm e0
    rw [e1]
    refine Ex_ifnonnullN (t := 20) dX11_isEmpty_5 rfl rfl ?_
    refine Ex_aload_n dX11_isEmpty_8 rfl rfl ?_
    refine Ex_iload_n dX11_isEmpty_9 rfl rfl ?_
    refine Ex_inv 2 dX11_isEmpty_10 rfl rfl (Or.inl rfl) rfl rfl rfl rfl z0 rfl rfl rfl (Ex_post (x11_kindOn Z V (by omega)) ?_)
    rintro _ _ ⟨rfl, e0⟩
    obtain rfl := Eq.symm e0
    rw [e2]
    refine Ex_ifnonnullN (t := 20) dX11_isEmpty_13 rfl rfl ?_
    refine Ex_iconst dX11_isEmpty_16 rfl ?_
    refine Ex_goto (t := 21) dX11_isEmpty_17 rfl ?_
    refine Ex_iret dX11_isEmpty_21 rfl rfl ?_
    exact ⟨ri (by simp [q]), rfl⟩
  · have e1 : (if (0 ≤ (d0 : Int) ∧ (d0 : Int) ≤ 7) then rv hw sa (d0 : Int).toNat else .null) = .null := by rw [if_pos (by omega)]; unfold rv; simp [q]
    have e2 : (if (0 ≤ (d0 : Int) ∧ (d0 : Int) ≤ 7) then kv hw sa (d0 : Int).toNat else .null) = .ref (sa d0) := by rw [if_pos (by omega)]; unfold kv; simp [q]
    refine Ex_aload_n dX11_isEmpty_0 rfl rfl ?_
    refine Ex_iload_n dX11_isEmpty_1 rfl rfl ?_
    refine Ex_inv 2 dX11_isEmpty_2 rfl rfl (Or.inl rfl) rfl rfl rfl rfl z0 rfl rfl rfl (Ex_post (x11_rowOn Z V (by omega)) ?_)
    rintro _ _ ⟨rfl, e0⟩
    obtain rfl := Eq.symm e0
    rw [e1]
    refine Ex_ifnonnullN (t := 20) dX11_isEmpty_5 rfl rfl ?_
    refine Ex_aload_n dX11_isEmpty_8 rfl rfl ?_
    refine Ex_iload_n dX11_isEmpty_9 rfl rfl ?_
    refine Ex_inv 2 dX11_isEmpty_10 rfl rfl (Or.inl rfl) rfl rfl rfl rfl z0 rfl rfl rfl (Ex_post (x11_kindOn Z V (by omega)) ?_)
    rintro _ _ ⟨rfl, e0⟩
    obtain rfl := Eq.symm e0
    rw [e2]
    refine Ex_ifnonnull (t := 20) dX11_isEmpty_13 rfl rfl ?_
    refine Ex_iconst dX11_isEmpty_20 rfl ?_
    refine Ex_iret dX11_isEmpty_21 rfl rfl ?_
    exact ⟨ri (by simp [q]), rfl⟩
  · have e1 : (if (0 ≤ (d0 : Int) ∧ (d0 : Int) ≤ 7) then rv hw sa (d0 : Int).toNat else .null) = .ref (sa d0) := by rw [if_pos (by omega)]; unfold rv; simp [q]
    have e2 : (if (0 ≤ (d0 : Int) ∧ (d0 : Int) ≤ 7) then kv hw sa (d0 : Int).toNat else .null) = .null := by rw [if_pos (by omega)]; unfold kv; simp [q]
    refine Ex_aload_n dX11_isEmpty_0 rfl rfl ?_
    refine Ex_iload_n dX11_isEmpty_1 rfl rfl ?_
    refine Ex_inv 2 dX11_isEmpty_2 rfl rfl (Or.inl rfl) rfl rfl rfl rfl z0 rfl rfl rfl (Ex_post (x11_rowOn Z V (by omega)) ?_)
    rintro _ _ ⟨rfl, e0⟩
    obtain rfl := Eq.symm e0
    rw [e1]
    refine Ex_ifnonnull (t := 20) dX11_isEmpty_5 rfl rfl ?_
    refine Ex_iconst dX11_isEmpty_20 rfl ?_
    refine Ex_iret dX11_isEmpty_21 rfl rfl ?_
    exact ⟨ri (by simp [q]), rfl⟩
theorem x11_whyNot {E : am_E} {d : Nat} {h : Hp} {x y : Nat} {hi : Int} {hw ck cf rs : Nat → Int} {rx : Nat → List Int} {sa : Nat → Nat} {a : Int}  (Z : Scr h x hi) (V : Shv h x y hw ck cf rs rx sa) (ha : (-2147483648 ≤ a ∧ a ≤ 2147483647))  : Ex E (d + 4) mX11_whyNot 0 [.ref x, .int (i32 a)] [] h (fun r1 h1 => r1 = some (.int (i32 (why hw a))) ∧ h1 = h) := by
  obtain ⟨⟨bs, z0⟩, z1, z2⟩ := id Z
  obtain ⟨v1, v2, v3, v4⟩ := id V
  by_cases q : 0 ≤ a ∧ a ≤ 7
  · obtain ⟨d0, rfl⟩ := Int.eq_ofNat_of_zero_le q.1
    have ew : why hw (d0 : Int) = if hw d0 = 0 then -11 else -12 := by unfold why; rw [if_pos q]; rfl
    rw [ew]
    by_cases q2 : hw d0 = 0
    · refine Ex_iload_n dX11_whyNot_0 rfl rfl ?_
      refine Ex_stat 0 dX11_whyNot_1 rfl rfl (Or.inl rfl) rfl rfl rfl rfl rfl rfl (Ex_post (x11_isShelf (by omega)) ?_)
      rintro _ _ ⟨rfl, e0⟩
      obtain rfl := Eq.symm e0
      refine Ex_if_ne (t := 9) dX11_whyNot_4 rfl rfl (by first | omega | (rw [if_pos (by omega)]; omega) | (rw [if_neg (by omega)]; omega)) (fun c4 => ?_) (fun c4 => absurd c4 (by first | omega | (rw [if_pos q] at c4; omega)))
      refine Ex_aload_n dX11_whyNot_9 rfl rfl ?_
      refine Ex_iload_n dX11_whyNot_10 rfl rfl ?_
      refine Ex_inv 2 dX11_whyNot_11 rfl rfl (Or.inl rfl) rfl rfl rfl rfl z0 rfl rfl rfl (Ex_post (x11_isEmpty Z V (by omega)) ?_)
      rintro _ _ ⟨rfl, e0⟩
      obtain rfl := Eq.symm e0
      refine Ex_if_eq (t := 22) dX11_whyNot_14 rfl rfl (by first | (rw [if_pos q2]; omega) | (rw [if_neg q2]; omega)) (fun c14 => absurd c14 (by first | (rw [if_pos q2] at c14; omega) | (rw [if_neg q2] at c14; omega))) (fun c14 => ?_)
      refine Ex_bipush dX11_whyNot_17 rfl (by decide) ?_
      refine Ex_goto (t := 24) dX11_whyNot_19 rfl ?_
      refine Ex_iret dX11_whyNot_24 rfl rfl ?_
      exact ⟨ri (by rw [if_pos q2]), rfl⟩
    · refine Ex_iload_n dX11_whyNot_0 rfl rfl ?_
      refine Ex_stat 0 dX11_whyNot_1 rfl rfl (Or.inl rfl) rfl rfl rfl rfl rfl rfl (Ex_post (x11_isShelf (by omega)) ?_)
      rintro _ _ ⟨rfl, e0⟩
      obtain rfl := Eq.symm e0
      refine Ex_if_ne (t := 9) dX11_whyNot_4 rfl rfl (by first | omega | (rw [if_pos (by omega)]; omega) | (rw [if_neg (by omega)]; omega)) (fun c4 => ?_) (fun c4 => absurd c4 (by first | omega | (rw [if_pos q] at c4; omega)))
      refine Ex_aload_n dX11_whyNot_9 rfl rfl ?_
      refine Ex_iload_n dX11_whyNot_10 rfl rfl ?_
      refine Ex_inv 2 dX11_whyNot_11 rfl rfl (Or.inl rfl) rfl rfl rfl rfl z0 rfl rfl rfl (Ex_post (x11_isEmpty Z V (by omega)) ?_)
      rintro _ _ ⟨rfl, e0⟩
      obtain rfl := Eq.symm e0
      refine Ex_if_eq (t := 22) dX11_whyNot_14 rfl rfl (by first | (rw [if_pos q2]; omega) | (rw [if_neg q2]; omega)) (fun c14 => ?_) (fun c14 => absurd c14 (by first | (rw [if_pos q2] at c14; omega) | (rw [if_neg q2] at c14; omega)))
      refine Ex_bipush dX11_whyNot_22 rfl (by decide) ?_
      refine Ex_iret dX11_whyNot_24 rfl rfl ?_
      exact ⟨ri (by rw [if_neg q2]), rfl⟩
  · refine Ex_iload_n dX11_whyNot_0 rfl rfl ?_
    refine Ex_stat 0 dX11_whyNot_1 rfl rfl (Or.inl rfl) rfl rfl rfl rfl rfl rfl (Ex_post (x11_isShelf (by omega)) ?_)
    rintro _ _ ⟨rfl, e0⟩
    obtain rfl := Eq.symm e0
    refine Ex_if_ne (t := 9) dX11_whyNot_4 rfl rfl (by first | omega | (rw [if_pos (by omega)]; omega) | (rw [if_neg (by omega)]; omega)) (fun c4 => absurd c4 (by first | omega | (rw [if_pos q] at c4; omega) | (rw [if_neg q] at c4; omega))) (fun c4 => ?_)
    refine Ex_iconst dX11_whyNot_7 rfl ?_
    refine Ex_iret dX11_whyNot_8 rfl rfl ?_
    exact ⟨ri (by unfold why; rw [if_neg q]), rfl⟩
theorem x11_fromNow {E : am_E} {d : Nat} {h : Hp} {x y n : Nat} {hi m tu : Int} {kr : Nat → Nat} {K F T S C : Nat → Int}  (Z : Scr h x hi) (R : RailAt h (x + 10) n m tu kr T S C) (hg : Rng n T S C) (ky : KY h y n kr K F) (hB : E.2 ≤ x) (hy : x + 57 ≤ y)  : Ex E (d + 2) mX11_fromNow 0 [.ref x] [] h (fun r1 h1 => r1 = some (.ref (x + 28)) ∧ RailAt h1 (x + 28) n m 0 kr T S C ∧ Fr h h1 (x + 28) (x + 37)) := by
  obtain ⟨⟨bs, z0⟩, z1, ⟨f2, z2⟩, ⟨f3, z3⟩, ⟨f4, z4⟩, ⟨f5, z5⟩, zr0, zr1, zr2, ⟨k5, t5, s5, c5, z55⟩, ⟨k6, t6, s6, c6, z56⟩⟩ := id Z
  obtain ⟨hr, hA, hP, hG, hn6⟩ := id R
  have kk := ky.ok (r := x + 10) (by omega)
  obtain ⟨n7, m7, tu7, kr7, T7, S7, C7, R7⟩ := id zr0
  obtain ⟨hr7, -⟩ := id R7
  refine Ex_aload_n dX11_fromNow_0 rfl rfl ?_
  refine Ex_getf dX11_fromNow_1 rfl (by first | exact z0 | exact z1 | exact (f9.2 _ (by omega)).trans z0 | exact (f9.2 _ (by omega)).trans z1) rfl rfl rfl ?_
  refine Ex_iconst dX11_fromNow_4 rfl ?_
  refine Ex_aald dX11_fromNow_5 rfl (by first | exact z0 | exact z1 | exact (f9.2 _ (by omega)).trans z0 | exact (f9.2 _ (by omega)).trans z1) (by omega) (by omega) rfl ?_
  refine Ex_aload_n dX11_fromNow_6 rfl rfl ?_
  refine Ex_getf dX11_fromNow_7 rfl (by first | exact z0 | exact z1 | exact (f9.2 _ (by omega)).trans z0 | exact (f9.2 _ (by omega)).trans z1) rfl rfl rfl ?_
  refine Ex_inv 2 dX11_fromNow_10 rfl rfl (Or.inl rfl) rfl rfl rfl rfl hr7 rfl rfl rfl (Ex_post (x7_setTo R7 R (by omega) (by omega)) ?_)
  rintro _ h9 ⟨rfl, R9, f9⟩
  refine Ex_aload_n dX11_fromNow_13 rfl rfl ?_
  refine Ex_getf dX11_fromNow_14 rfl (by first | exact z0 | exact z1 | exact (f9.2 _ (by omega)).trans z0 | exact (f9.2 _ (by omega)).trans z1) rfl rfl rfl ?_
  refine Ex_iconst dX11_fromNow_17 rfl ?_
  refine Ex_aald dX11_fromNow_18 rfl (by first | exact z0 | exact z1 | exact (f9.2 _ (by omega)).trans z0 | exact (f9.2 _ (by omega)).trans z1) (by omega) (by omega) rfl ?_
  refine Ex_aret dX11_fromNow_19 rfl rfl ?_
  exact ⟨rfl, R9, f9⟩
