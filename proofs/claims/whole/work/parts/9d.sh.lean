/-! the law's invariant (by hand) -/
/-- cells of a region are kept -/
def Ol (h h1 : Hp) (P : Nat → Prop) : Prop := ∀ q v, P q → h.1 q = some v → h1.1 q = some v
theorem RailAt.ol {h h1 : Hp} {r n : Nat} {m tu : Int} {kr : Nat → Nat} {T S C : Nat → Int} (R : RailAt h r n m tu kr T S C) (e : ∀ q v, r ≤ q → q < r + 9 → h.1 q = some v → h1.1 q = some v) : RailAt h1 r n m tu kr T S C := by
  obtain ⟨a1, a2, a3, a4, a5⟩ := R
  refine ⟨e _ _ (by omega) (by omega) a1, e _ _ (by omega) (by omega) a2, fun i hi => e _ _ (by omega) (by omega) (a3 i hi), fun i hi => ?_, a5⟩
  obtain ⟨k, t, s, c, z⟩ := a4 i hi
  exact ⟨k, t, s, c, e _ _ (by omega) (by omega) z⟩
theorem RailAny.ol {h h1 : Hp} {r : Nat} (R : RailAny h r) (e : ∀ q v, r ≤ q → q < r + 9 → h.1 q = some v → h1.1 q = some v) : RailAny h1 r := by
  obtain ⟨n, m, tu, kr, T, S, C, R⟩ := R
  exact ⟨n, m, tu, kr, T, S, C, R.ol e⟩
theorem KY.ol {h h1 : Hp} {y n : Nat} {kr : Nat → Nat} {K F : Nat → Int} (k : KY h y n kr K F) (e : ∀ q v, y ≤ q → h.1 q = some v → h1.1 q = some v) : KY h1 y n kr K F := fun i hi => by
  obtain ⟨⟨a, b, c⟩, d⟩ := k i hi
  exact ⟨⟨e _ _ d a, e _ _ (by omega) b, c⟩, d⟩
theorem RK.ol {h h1 : Hp} {r y : Nat} {tu : Int} {kr : Nat → Nat} {X : RS} (k : RK h r y tu kr X) (e : ∀ q v, (r ≤ q ∧ q < r + 9) ∨ y ≤ q → h.1 q = some v → h1.1 q = some v) : RK h1 r y tu kr X := by
  obtain ⟨n, m, K, F, T, S, C⟩ := X
  obtain ⟨a, b, c⟩ := k
  exact ⟨a.ol (fun q v h1 h2 => e q v (Or.inl ⟨h1, h2⟩)), b, c.ol (fun q v h1 => e q v (Or.inr h1))⟩
theorem PupAny.ol {h h1 : Hp} {a : Nat} (R : PupAny h a) (e : ∀ v, h.1 a = some v → h1.1 a = some v) : PupAny h1 a := by
  obtain ⟨k, t, s, c, z⟩ := R
  exact ⟨k, t, s, c, e _ z⟩
theorem Scr.ol {h h1 : Hp} {x : Nat} {hi : Int} (Z : Scr h x hi) (e : ∀ q v, (x ≤ q ∧ q < x + 6) ∨ (x + 28 ≤ q ∧ q < x + 57) → h.1 q = some v → h1.1 q = some v) : Scr h1 x hi := by
  obtain ⟨⟨bs, z0⟩, z1, ⟨f2, z2⟩, ⟨f3, z3⟩, ⟨f4, z4⟩, ⟨f5, z5⟩, a, b, c, p, q⟩ := Z
  exact ⟨⟨bs, e _ _ (by omega) z0⟩, e _ _ (by omega) z1, ⟨f2, e _ _ (by omega) z2⟩, ⟨f3, e _ _ (by omega) z3⟩, ⟨f4, e _ _ (by omega) z4⟩, ⟨f5, e _ _ (by omega) z5⟩, a.ol (fun q v h1 h2 => e q v (by omega)), b.ol (fun q v h1 h2 => e q v (by omega)), c.ol (fun q v h1 h2 => e q v (by omega)), p.ol (fun v => e _ v (by omega)), q.ol (fun v => e _ v (by omega))⟩
theorem Shv.ol {h h1 : Hp} {x y : Nat} {hw ck cf rs : Nat → Int} {rx : Nat → List Int} {sa : Nat → Nat} (V : Shv h x y hw ck cf rs rx sa) (e : ∀ q v, q = x + 6 ∨ q = x + 7 ∨ y ≤ q → h.1 q = some v → h1.1 q = some v) : Shv h1 x y hw ck cf rs rx sa := by
  obtain ⟨a, b, c, d⟩ := V
  refine ⟨e _ _ (Or.inl rfl) a, e _ _ (Or.inr (Or.inl rfl)) b, fun i hi => ?_, d⟩
  obtain ⟨c1, c2, c3, c4⟩ := c i hi
  refine ⟨c1, fun w => ?_, fun w => ?_, c4⟩
  · obtain ⟨k1, k2, k3⟩ := c2 w
    have := c4 (by omega)
    exact ⟨e _ _ (by omega) k1, e _ _ (by omega) k2, k3⟩
  · obtain ⟨k1, k2, k3⟩ := c3 w
    have := c4 (by omega)
    exact ⟨e _ _ (by omega) k1, e _ _ (by omega) k2, k3⟩
/-- the class's side -/
def CI (h : Hp) (x : Nat) (X XI : RS) (hi : Int) (hw ck cf rs : Nat → Int) (rx : Nat → List Int) : Prop := Scr h x hi ∧ Now h x (x + 81) X ∧ ((hi = 1 → ∃ kr tu, RK h (x + 19) (x + 81) tu kr XI) ∧ RailAny h (x + 19)) ∧ (∃ sa, Shv h x (x + 81) hw ck cf rs rx sa) ∧ WF h ∧ x + 81 ≤ h.2.1
/-- the reference's side -/
def RI (h : Hp) (x : Nat) (X XI : RS) (hi : Int) (hw ck cf rs : Nat → Int) (rx : Nat → List Int) : Prop := ∃ σ, MI h (x + 57) X hi σ ∧ Sv σ hw ck cf rs rx ∧ (hi = 1 → ∀ i, i < 32 → σ 16 i = pk XI i)
def PI (X XI : RS) (hi : Int) : Prop := OKS X ∧ (hi = 1 → OKS XI) ∧ (hi = 0 ∨ hi = 1)
def OCe (h : Hp) (x : Nat) : Prop := ∃ z : Int64, h.1 (x + 80) = some (21, [.long z])
def IN (h : Hp) (x : Nat) : Prop := ∃ (X XI : RS) (hi : Int) (hw ck cf rs : Nat → Int) (rx : Nat → List Int), PI X XI hi ∧ CI h x X XI hi hw ck cf rs rx ∧ RI h x X XI hi hw ck cf rs rx ∧ OCe h x
/-- room, and what lies in front -/
def GW (h h1 : Hp) (x c s : Nat) : Prop := (h.2.1 ≤ h1.2.1 ∧ h1.2.1 ≤ h.2.1 + c ∧ h.2.2 ≤ h1.2.2 ∧ h1.2.2 ≤ h.2.2 + s) ∧ ∀ q v, q < x → h.1 q = some v → h1.1 q = some v
theorem GW.trans {h h1 h2 : Hp} {x c s c2 s2 : Nat} (a : GW h h1 x c s) (b : GW h1 h2 x c2 s2) : GW h h2 x (c + c2) (s + s2) := ⟨by have := a.1; have := b.1; omega, fun q v hq e => b.2 q v hq (a.2 q v hq e)⟩
theorem GW.rf (h : Hp) (x c s : Nat) : GW h h x c s := ⟨by omega, fun _ _ _ e => e⟩
theorem Fr.gw {h h1 : Hp} {x lo hi : Nat} (f : Fr h h1 lo hi) (hx : x ≤ lo) (c s : Nat) : GW h h1 x c s := ⟨by rw [f.1]; omega, fun q v hq e => (f.2 q (by omega)).trans e⟩
theorem FrS.gw {h h1 : Hp} {x : Nat} (f : FrS h h1 x) (c s : Nat) : GW h h1 x c s := ⟨by rw [f.1]; omega, fun q v hq e => (f.2 q (by omega)).trans e⟩
theorem Gr.gw {h h1 : Hp} {x lo hi c s c2 s2 : Nat} (f : Gr h h1 lo hi c s) (hx : x ≤ lo ∨ hi ≤ lo) (h1' : c ≤ c2) (h2' : s ≤ s2) : GW h h1 x c2 s2 := ⟨by have := f.1; omega, fun q v hq e => f.2.2 q v (by omega) e⟩
theorem GX.gw {h h1 : Hp} {x c s c2 s2 : Nat} (f : GX h h1 x c s) (h1' : c ≤ c2) (h2' : s ≤ s2) : GW h h1 x c2 s2 := ⟨by have := f.1; omega, fun q v hq e => f.2.2 q v (by omega) (by omega) e⟩
theorem MI.ol {h h1 : Hp} {m : Nat} {X : RS} {hi : Int} {σ : Nat → Nat → Int} (I : MI h m X hi σ) (e : ∀ q v, m ≤ q → q < m + 23 → h.1 q = some v → h1.1 q = some v) : MI h1 m X hi σ := by
  obtain ⟨g, ρ, kp, M, r⟩ := I
  exact ⟨g, ρ, kp, M.old e, r⟩
theorem RI.ol {h h1 : Hp} {x : Nat} {X XI : RS} {hi : Int} {hw ck cf rs : Nat → Int} {rx : Nat → List Int} (R : RI h x X XI hi hw ck cf rs rx) (e : ∀ q v, x + 57 ≤ q → q < x + 80 → h.1 q = some v → h1.1 q = some v) : RI h1 x X XI hi hw ck cf rs rx := by
  obtain ⟨σ, a, b, c⟩ := R
  exact ⟨σ, a.ol (fun q v h1 h2 => e q v h1 (by omega)), b, c⟩
/-- a question of the class -/
theorem CI.q {h h1 : Hp} {x : Nat} {X XI : RS} {hi : Int} {hw ck cf rs : Nat → Int} {rx : Nat → List Int} (C : CI h x X XI hi hw ck cf rs rx) (Z : Scr h1 x hi) (f : FrS h h1 x) : CI h1 x X XI hi hw ck cf rs rx := by
  obtain ⟨c1, ⟨kr, tu, c2⟩, ⟨c3, c4⟩, ⟨sa, c5⟩, c6, c7⟩ := C
  have e : ∀ q v, ¬ (q = x ∨ (x + 2 ≤ q ∧ q < x + 6) ∨ (x + 28 ≤ q ∧ q < x + 57)) → h.1 q = some v → h1.1 q = some v := fun q v hq e => (f.2 q hq).trans e
  refine ⟨Z, ⟨kr, tu, c2.ol (fun q v hq => e q v (by omega))⟩, ⟨fun z => ?_, c4.ol (fun q v h1 h2 => e q v (by omega))⟩, ⟨sa, c5.ol (fun q v hq => e q v (by omega))⟩, fun q hq => ?_, by rw [f.1]; exact c7⟩
  · obtain ⟨kr, tu, k⟩ := c3 z
    exact ⟨kr, tu, k.ol (fun q v hq => e q v (by omega))⟩
  · rw [f.1] at hq
    rw [f.2 q (by omega)]
    exact c6 q hq
/-- a call that changes the rail alone -/
theorem CI.p {h h1 : Hp} {x : Nat} {X XI X2 : RS} {hi : Int} {hw ck cf rs : Nat → Int} {rx : Nat → List Int} (C : CI h x X XI hi hw ck cf rs rx) (N : Now h1 x (x + 81) X2) (f : Fr h h1 (x + 10) (x + 19)) : CI h1 x X2 XI hi hw ck cf rs rx := by
  obtain ⟨c1, c2, ⟨c3, c4⟩, ⟨sa, c5⟩, c6, c7⟩ := C
  have e : ∀ q v, ¬ (x + 10 ≤ q ∧ q < x + 19) → h.1 q = some v → h1.1 q = some v := fun q v hq e => (f.2 q (by omega)).trans e
  refine ⟨c1.ol (fun q v hq => e q v (by omega)), N, ⟨fun z => ?_, c4.ol (fun q v h1 h2 => e q v (by omega))⟩, ⟨sa, c5.ol (fun q v hq => e q v (by omega))⟩, f.wf c6 (by omega), by rw [f.1]; exact c7⟩
  obtain ⟨kr, tu, k⟩ := c3 z
  exact ⟨kr, tu, k.ol (fun q v hq => e q v (by omega))⟩
/-- bath -/
theorem CI.b {h h1 : Hp} {x c s : Nat} {X XI X2 : RS} {hi : Int} {hw ck cf rs : Nat → Int} {rx : Nat → List Int} (C : CI h x X XI hi hw ck cf rs rx) (Z : Scr h1 x hi) (N : Now h1 x (x + 81) X2) (f : GX h h1 x c s) : CI h1 x X2 XI hi hw ck cf rs rx := by
  obtain ⟨c1, c2, ⟨c3, c4⟩, ⟨sa, c5⟩, c6, c7⟩ := C
  have e : ∀ q v, ¬ (x + 10 ≤ q ∧ q < x + 19) → ¬ (x + 28 ≤ q ∧ q < x + 37) → h.1 q = some v → h1.1 q = some v := f.2.2
  refine ⟨Z, N, ⟨fun z => ?_, c4.ol (fun q v h1 h2 => e q v (by omega) (by omega))⟩, ⟨sa, c5.ol (fun q v hq => e q v (by omega) (by omega))⟩, f.2.1, by have := f.1; omega⟩
  obtain ⟨kr, tu, k⟩ := c3 z
  exact ⟨kr, tu, k.ol (fun q v hq => e q v (by omega) (by omega))⟩
/-- a shelf changes, or new cells alone -/
theorem CI.s {h h1 : Hp} {x lo hi0 c s : Nat} {X XI : RS} {hi : Int} {hw ck cf rs hw2 ck2 cf2 rs2 : Nat → Int} {rx rx2 : Nat → List Int} (C : CI h x X XI hi hw ck cf rs rx) (f : Gr h h1 lo hi0 c s) (hl : hi0 ≤ lo ∨ (x + 6 ≤ lo ∧ hi0 ≤ x + 8)) (V : ∃ sa, Shv h1 x (x + 81) hw2 ck2 cf2 rs2 rx2 sa) : CI h1 x X XI hi hw2 ck2 cf2 rs2 rx2 := by
  obtain ⟨c1, ⟨kr, tu, c2⟩, ⟨c3, c4⟩, -, c6, c7⟩ := C
  have e : ∀ q v, ¬ (x + 6 ≤ q ∧ q < x + 8) → h.1 q = some v → h1.1 q = some v := fun q v hq => f.2.2 q v (by omega)
  refine ⟨c1.ol (fun q v hq => e q v (by omega)), ⟨kr, tu, c2.ol (fun q v hq => e q v (by omega))⟩, ⟨fun z => ?_, c4.ol (fun q v h1 h2 => e q v (by omega))⟩, V, f.2.1, by have := f.1; omega⟩
  obtain ⟨kr, tu, k⟩ := c3 z
  exact ⟨kr, tu, k.ol (fun q v hq => e q v (by omega))⟩
/-- new cells alone: the shelves as they are -/
theorem CI.n {h h1 : Hp} {x c s : Nat} {X XI : RS} {hi : Int} {hw ck cf rs : Nat → Int} {rx : Nat → List Int} (C : CI h x X XI hi hw ck cf rs rx) (f : Gr h h1 0 0 c s) : CI h1 x X XI hi hw ck cf rs rx := by
  obtain ⟨sa, V⟩ := C.2.2.2.1
  exact C.s f (Or.inl (by omega)) ⟨sa, V.ol (fun q v _ => f.2.2 q v (by omega))⟩
theorem KindAt.tag {h : Hp} {a : Nat} {k f : Int} (K : KindAt h a k f) : ∀ xs, h.1 a ≠ some (20, xs) := fun xs e => by
  have h1 := K.1
  rw [e] at h1
  injection h1 with h1
  have h2 : (20 : Nat) = ktag k := congrArg Prod.fst h1
  unfold ktag at h2
  repeat' split at h2
  all_goals omega
/-- the rows' elements change: a cell of a row behind y, no KIND there -/
theorem KY.row {h h1 : Hp} {y n a : Nat} {kr : Nat → Nat} {K F : Nat → Int} (k : KY h y n kr K F) (f : Fr h h1 (a + 1) (a + 2)) (W : ∃ so, h.1 a = some (8, so)) (hn : ∀ i, i < n → kr i ≠ a ∧ kr i ≠ a + 1) : KY h1 y n kr K F := fun i hi => by
  obtain ⟨⟨p1, p2, p3⟩, d⟩ := k i hi
  obtain ⟨n1, n2⟩ := hn i hi
  exact ⟨⟨(f.2 _ (by omega)).trans p1, (f.2 _ (by omega)).trans p2, p3⟩, d⟩
