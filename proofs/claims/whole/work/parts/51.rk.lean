/-! a rail with its KINDS, changes that make cells (by program: wip/whole/spec_j.py) -/
/-- children, MINUTE, KIND, FIGURE, TRUST, STEP, COLD -/
abbrev RS : Type := Nat × Int × (Nat → Int) × (Nat → Int) × (Nat → Int) × (Nat → Int) × (Nat → Int)
def WF (h : Hp) : Prop := ∀ q, h.2.1 ≤ q → h.1 q = none
theorem WF.lt {h : Hp} (w : WF h) {q : Nat} {x : OC} (e : h.1 q = some x) : q < h.2.1 := by
  by_cases c : q < h.2.1
  · exact c
  · have := w q (by omega)
    rw [this] at e
    cases e
/-- at most c cells of s slots are new; of the old ones only those from lo to hi have changed -/
def Gr (h h1 : Hp) (lo hi c s : Nat) : Prop := (h.2.1 ≤ h1.2.1 ∧ h1.2.1 ≤ h.2.1 + c ∧ h.2.2 ≤ h1.2.2 ∧ h1.2.2 ≤ h.2.2 + s) ∧ WF h1 ∧ ∀ q x, (q < lo ∨ hi ≤ q) → h.1 q = some x → h1.1 q = some x
theorem Gr.rf {h : Hp} (w : WF h) (lo hi c s : Nat) : Gr h h lo hi c s := ⟨by omega, w, fun _ _ _ e => e⟩
theorem Gr.trans {h h1 h2 : Hp} {lo hi c s c2 s2 : Nat} (a : Gr h h1 lo hi c s) (b : Gr h1 h2 lo hi c2 s2) : Gr h h2 lo hi (c + c2) (s + s2) := ⟨by have := a.1; have := b.1; omega, b.2.1, fun q x hq e => b.2.2 q x hq (a.2.2 q x hq e)⟩
theorem Gr.wide {h h1 : Hp} {lo hi c s lo2 hi2 c2 s2 : Nat} (a : Gr h h1 lo hi c s) (h1' : lo2 ≤ lo) (h2 : hi ≤ hi2) (h3 : c ≤ c2) (h4 : s ≤ s2) : Gr h h1 lo2 hi2 c2 s2 := ⟨by have := a.1; omega, a.2.1, fun q x hq e => a.2.2 q x (by omega) e⟩
theorem Fr.gr {h h1 : Hp} {lo hi : Nat} (f : Fr h h1 lo hi) (w : WF h) (hh : hi ≤ h.2.1) (c s : Nat) : Gr h h1 lo hi c s := by
  obtain ⟨e1, e2⟩ := f
  refine ⟨by rw [e1]; omega, fun q hq => ?_, fun q x hq e => (e2 q hq).trans e⟩
  rw [e1] at hq
  rw [e2 q (by omega)]
  exact w q hq
theorem Gr.kind {h h1 : Hp} {lo hi c s a : Nat} {k f : Int} (g : Gr h h1 lo hi c s) (K : KindAt h a k f) (ha : a + 1 < lo ∨ hi ≤ a) : KindAt h1 a k f := ⟨g.2.2 _ _ (by omega) K.1, g.2.2 _ _ (by omega) K.2.1, K.2.2⟩
theorem Gr.row {h h1 : Hp} {lo hi c s a : Nat} {so : Int} {xs : List Int} (g : Gr h h1 lo hi c s) (W : RowAt h a so xs) (ha : a + 1 < lo ∨ hi ≤ a) : RowAt h1 a so xs := ⟨g.2.2 _ _ (by omega) W.1, g.2.2 _ _ (by omega) W.2.1, W.2.2⟩
theorem Gr.rail {h h1 : Hp} {lo hi c s r n : Nat} {m tu : Int} {kr : Nat → Nat} {T S C : Nat → Int} (g : Gr h h1 lo hi c s) (R : RailAt h r n m tu kr T S C) (ha : r + 9 ≤ lo ∨ hi ≤ r) : RailAt h1 r n m tu kr T S C := by
  obtain ⟨a1, a2, a3, a4, a5⟩ := R
  refine ⟨g.2.2 _ _ (by omega) a1, g.2.2 _ _ (by omega) a2, fun i hi => g.2.2 _ _ (by omega) (a3 i hi), fun i hi => ?_, a5⟩
  obtain ⟨k, t, s, c, e⟩ := a4 i hi
  exact ⟨k, t, s, c, g.2.2 _ _ (by omega) e⟩
theorem of_gr {h h1 : Hp} (w : WF h) (e : h1.2 = (h.2.1 + 2, h.2.2 + 16)) (hq : ∀ q, q ≠ h.2.1 → q ≠ h.2.1 + 1 → h1.1 q = h.1 q) (lo : Nat) : Gr h h1 lo lo 2 16 := by
  have e1 : h1.2.1 = h.2.1 + 2 := by rw [e]
  have e2 : h1.2.2 = h.2.2 + 16 := by rw [e]
  refine ⟨by omega, fun q z => (hq q (by omega) (by omega)).trans (w q (by omega)), fun q x _ z => ?_⟩
  have := w.lt z
  exact (hq q (by omega) (by omega)).trans z
/-- the KINDS of the first n, all from y on -/
def KY (h : Hp) (y n : Nat) (kr : Nat → Nat) (K F : Nat → Int) : Prop := ∀ i, i < n → KindAt h (kr i) (K i) (F i) ∧ y ≤ kr i
theorem KY.ok {h : Hp} {y n r : Nat} {kr : Nat → Nat} {K F : Nat → Int} (k : KY h y n kr K F) (hy : r + 9 ≤ y) : KOK h r (r + 9) n kr K F := fun i hi => ⟨(k i hi).1, by have := (k i hi).2; omega⟩
theorem KY.gr {h h1 : Hp} {y n lo hi c s : Nat} {kr : Nat → Nat} {K F : Nat → Int} (k : KY h y n kr K F) (g : Gr h h1 lo hi c s) (hy : hi ≤ y) : KY h1 y n kr K F := fun i hi => ⟨g.kind (k i hi).1 (by have := (k i hi).2; omega), (k i hi).2⟩
theorem KY.fr {h h1 : Hp} {y n lo hi : Nat} {kr : Nat → Nat} {K F : Nat → Int} (k : KY h y n kr K F) (g : Fr h h1 lo hi) (hy : hi ≤ y) : KY h1 y n kr K F := fun i hi => ⟨(k i hi).1.kept (g.2 _ (by have := (k i hi).2; omega)) (g.2 _ (by have := (k i hi).2; omega)), (k i hi).2⟩
def RK (h : Hp) (r y : Nat) (tu : Int) (kr : Nat → Nat) : RS → Prop
  | (n, m, K, F, T, S, C) => RailAt h r n m tu kr T S C ∧ Rng n T S C ∧ KY h y n kr K F
theorem Fr.wf {h h1 : Hp} {lo hi : Nat} (f : Fr h h1 lo hi) (w : WF h) (hh : hi ≤ h.2.1) : WF h1 := (f.gr w hh 0 0).2.1
/-- a MINUTE of c by a way, a BREAK, two change, one more comes -/
def rsM (c : Nat) (way : Int) : RS → RS
  | (n, m, K, F, T, S, C) => (n, m + 1, K, F, minT n c way K F T S C, mnS c way K F T S, minC n c way K F T S C)
def rsB (w : Int) : RS → RS
  | (n, m, K, F, T, S, C) => (n, m, K, F, brT w n T, brS w n S, brC n C)
def rsX (a b : Nat) : RS → RS
  | (n, m, K, F, T, S, C) => (n, m, sw K a b, sw F a b, sw T a b, sw S a b, sw C a b)
def rsC (k f t : Int) : RS → RS
  | (n, m, K, F, T, S, C) => (n + 1, m, fu K n k, fu F n f, fu T n t, fu S n 0, fu C n 0)
def rsT (c : Nat) (t : Int) : RS → RS
  | (n, m, K, F, T, S, C) => (n, m, K, F, fu T c t, S, C)
def rsS (c : Nat) (s : Int) : RS → RS
  | (n, m, K, F, T, S, C) => (n, m, K, F, T, fu S c s, C)
/-- a STATEMENT: its letter, two digits, two numbers of two digits -/
def ob (z a b t2 t3 : Int) (x : RS) : Option RS :=
  if z = 99 then (if x.1 < 6 ∧ a ≤ 7 ∧ t3 ≤ 20 then some (rsC a b t3 x) else none)
  else if z = 109 then (if ((0 ≤ a ∧ a < (x.1 : Int)) ∧ x.2.2.2.2.2.1 a.toNat < 7 ∧ (0 ≤ b ∧ b ≤ 3)) ∧ x.2.1 < 999 then some (rsM a.toNat b x) else none)
  else if z = 98 then some (rsB a x)
  else if z = 120 then (if (0 ≤ a ∧ a < (x.1 : Int)) ∧ (0 ≤ b ∧ b < (x.1 : Int)) ∧ a ≠ b then some (rsX a.toNat b.toNat x) else none)
  else if z = 116 then (if (0 ≤ a ∧ a < (x.1 : Int)) ∧ t2 ≤ 20 then some (rsT a.toNat t2 x) else none)
  else (if (0 ≤ a ∧ a < (x.1 : Int)) ∧ b ≤ 7 then some (rsS a.toNat b x) else none)
/-- what a STATEMENT does to a rail at r -/
def Obd (h h1 : Hp) (r y : Nat) (tu : Int) (r1 : Option Value) : Option RS → Prop
  | none => r1 = some (.int (i32 0)) ∧ h1 = h
  | some x => r1 = some (.int (i32 1)) ∧ (∃ kr, RK h1 r y tu kr x) ∧ Gr h h1 r (r + 9) 2 16
theorem rng_sw {n a b : Nat} {T S C : Nat → Int} (h : Rng n T S C) (ha : a < n) (hb : b < n) : Rng n (sw T a b) (sw S a b) (sw C a b) := by
  intro j hj
  unfold sw
  by_cases c1 : j = b
  · simp only [c1, if_true]; exact h a ha
  · by_cases c2 : j = a
    · simp only [c1, c2, if_true, if_false]
      split
      · exact h a ha
      · exact h b hb
    · simp only [c1, c2, if_false]; exact h j hj
theorem br_r {w : Int} {n : Nat} {T S C : Nat → Int} (h : Rng n T S C) (hw : 0 ≤ w) : Rng n (brT w n T) (brS w n S) (brC n C) := by
  intro j hj
  have hj2 := h j hj
  have := sp_cl_r (T j - w)
  unfold brT brS brC
  rw [if_pos hj, if_pos hj, if_pos hj]
  refine ⟨this, ?_, by omega⟩
  split <;> omega
