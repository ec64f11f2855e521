/-! rails: the cells of a Rail and its Pupils, nine of them from r on -/
def fu (f : Nat → Int) (i : Nat) (v : Int) : Nat → Int := fun j => if j = i then v else f j
def fuN (f : Nat → Nat) (i : Nat) (v : Nat) : Nat → Nat := fun j => if j = i then v else f j
theorem fu_same (f : Nat → Int) (i : Nat) : fu f i (f i) = f := by
  funext j
  unfold fu
  split
  · rename_i h; rw [h]
  · rfl
theorem fuN_same (f : Nat → Nat) (i : Nat) : fuN f i (f i) = f := by
  funext j
  unfold fuN
  split
  · rename_i h; rw [h]
  · rfl
theorem fu_at (f : Nat → Int) (i : Nat) (v : Int) : fu f i v i = v := by unfold fu; rw [if_pos rfl]
theorem fu_ne {f : Nat → Int} {i j : Nat} {v : Int} (h : j ≠ i) : fu f i v j = f j := by unfold fu; rw [if_neg h]
def sm (f : Nat → Int) (c : Nat) : Nat → Int
  | 0 => 0
  | k + 1 => f c + sm f (c + 1) k
abbrev rcell (r n : Nat) (m tu : Int) : OC := (7, [.ref (r + 1), .ref (r + 8), .int (i32 (n : Int)), .int (i32 m), .int (i32 tu)])
abbrev rarr (r : Nat) : OC := (23, [.ref (r + 2 + 0), .ref (r + 2 + 1), .ref (r + 2 + 2), .ref (r + 2 + 3), .ref (r + 2 + 4), .ref (r + 2 + 5)])
theorem rarr_get {r c : Nat} (hc : c < 6) : [Value.ref (r + 2 + 0), .ref (r + 2 + 1), .ref (r + 2 + 2), .ref (r + 2 + 3), .ref (r + 2 + 4), .ref (r + 2 + 5)][((c : Nat) : Int).toNat]? = some (.ref (r + 2 + c)) := by
  rcases (show c = 0 ∨ c = 1 ∨ c = 2 ∨ c = 3 ∨ c = 4 ∨ c = 5 by omega) with rfl | rfl | rfl | rfl | rfl | rfl <;> rfl
/-- a Rail at r: n children, the MINUTE m, the turn tu; what stands behind the n-th is anything -/
def RailAt (h : Hp) (r n : Nat) (m tu : Int) (kr : Nat → Nat) (T S C : Nat → Int) : Prop :=
  h.1 r = some (rcell r n m tu) ∧ h.1 (r + 1) = some (rarr r) ∧ (∀ i, i < n → h.1 (r + 2 + i) = some (pcell (kr i) (T i) (S i) (C i))) ∧ (∀ i, i < 7 → ∃ (k : Nat) (t s c : Int), h.1 (r + 2 + i) = some (pcell k t s c)) ∧ n ≤ 6
def Rng (n : Nat) (T S C : Nat → Int) : Prop := ∀ i, i < n → (0 ≤ T i ∧ T i ≤ 20) ∧ (0 ≤ S i ∧ S i ≤ 7) ∧ (0 ≤ C i ∧ C i ≤ 20)
/-- KINDS at the addresses kr, apart from the cells from lo to hi -/
def KOK (h : Hp) (lo hi n : Nat) (kr : Nat → Nat) (K F : Nat → Int) : Prop := ∀ i, i < n → KindAt h (kr i) (K i) (F i) ∧ (kr i + 1 < lo ∨ hi ≤ kr i)
/-- only cells from lo to hi have changed, none is new -/
def Fr (h h1 : Hp) (lo hi : Nat) : Prop := h1.2 = h.2 ∧ ∀ q, q < lo ∨ hi ≤ q → h1.1 q = h.1 q
theorem Fr.rf (h : Hp) (lo hi : Nat) : Fr h h lo hi := ⟨rfl, fun _ _ => rfl⟩
theorem Fr.trans {h h1 h2 : Hp} {lo hi : Nat} (a : Fr h h1 lo hi) (b : Fr h1 h2 lo hi) : Fr h h2 lo hi := ⟨b.1.trans a.1, fun q hq => (b.2 q hq).trans (a.2 q hq)⟩
theorem Fr.put {h : Hp} {lo hi a : Nat} (x : OC) (ha : lo ≤ a ∧ a < hi) : Fr h (am_put h a x) lo hi := ⟨rfl, fun q hq => am_pg2 (by omega)⟩
theorem Fr.wide {h h1 : Hp} {lo hi lo2 hi2 : Nat} (a : Fr h h1 lo hi) (h1' : lo2 ≤ lo) (h2 : hi ≤ hi2) : Fr h h1 lo2 hi2 := ⟨a.1, fun q hq => a.2 q (by omega)⟩
theorem KOK.fr {h h1 : Hp} {lo hi n : Nat} {kr : Nat → Nat} {K F : Nat → Int} (k : KOK h lo hi n kr K F) (f : Fr h h1 lo hi) : KOK h1 lo hi n kr K F := fun i hi => ⟨(k i hi).1.kept (f.2 _ (by have := (k i hi).2; omega)) (f.2 _ (by have := (k i hi).2; omega)), (k i hi).2⟩
theorem KOK.fr2 {h h1 : Hp} {lo hi lo2 hi2 n : Nat} {kr : Nat → Nat} {K F : Nat → Int} (k : KOK h lo hi n kr K F) (f : Fr h h1 lo2 hi2) (ha : ∀ i, i < n → kr i + 1 < lo2 ∨ hi2 ≤ kr i) : KOK h1 lo hi n kr K F := fun i hi => ⟨(k i hi).1.kept (f.2 _ (by have := ha i hi; omega)) (f.2 _ (by have := ha i hi; omega)), (k i hi).2⟩
theorem RailAt.fr {h h1 : Hp} {r n lo hi : Nat} {m tu : Int} {kr : Nat → Nat} {T S C : Nat → Int} (R : RailAt h r n m tu kr T S C) (f : Fr h h1 lo hi) (ha : r + 9 ≤ lo ∨ hi ≤ r) : RailAt h1 r n m tu kr T S C := by
  obtain ⟨a1, a2, a3, a4, a5⟩ := R
  refine ⟨(f.2 _ (by omega)).trans a1, (f.2 _ (by omega)).trans a2, fun i hi => (f.2 _ (by omega)).trans (a3 i hi), fun i hi => ?_, a5⟩
  obtain ⟨k, t, s, c, e⟩ := a4 i hi
  exact ⟨k, t, s, c, (f.2 _ (by omega)).trans e⟩
/-- a Pupil's own change -/
theorem RailAt.pup {h : Hp} {r n i k2 : Nat} {m tu t s c : Int} {kr : Nat → Nat} {T S C : Nat → Int} (R : RailAt h r n m tu kr T S C) (hi : i < 6) : RailAt (am_put h (r + 2 + i) (pcell k2 t s c)) r n m tu (fuN kr i k2) (fu T i t) (fu S i s) (fu C i c) := by
  obtain ⟨a1, a2, a3, a4, a5⟩ := R
  refine ⟨(am_pg2 (by omega)).trans a1, (am_pg2 (by omega)).trans a2, fun j hj => ?_, fun j hj => ?_, a5⟩
  · by_cases hji : j = i
    · subst hji
      rw [am_pg1]
      simp [fuN, fu]
    · rw [am_pg2 (by omega), a3 j hj]
      simp [fuN, fu, hji]
  · by_cases hji : j = i
    · subst hji
      exact ⟨_, _, _, _, am_pg1 _ _ _⟩
    · obtain ⟨k, t1, s1, c1, e⟩ := a4 j hj
      exact ⟨k, t1, s1, c1, (am_pg2 (by omega)).trans e⟩
/-- .. its KIND kept -/
theorem RailAt.pup1 {h : Hp} {r n i : Nat} {m tu t s c : Int} {kr : Nat → Nat} {T S C : Nat → Int} (R : RailAt h r n m tu kr T S C) (hi : i < 6) : RailAt (am_put h (r + 2 + i) (pcell (kr i) t s c)) r n m tu kr (fu T i t) (fu S i s) (fu C i c) := by
  have := R.pup (k2 := kr i) (t := t) (s := s) (c := c) hi
  rw [fuN_same] at this
  exact this
theorem RailAt.aside {h : Hp} {r n k2 : Nat} {m tu t s c : Int} {kr : Nat → Nat} {T S C : Nat → Int} (R : RailAt h r n m tu kr T S C) : RailAt (am_put h (r + 8) (pcell k2 t s c)) r n m tu kr T S C := by
  obtain ⟨a1, a2, a3, a4, a5⟩ := R
  refine ⟨(am_pg2 (by omega)).trans a1, (am_pg2 (by omega)).trans a2, fun j hj => (am_pg2 (by omega)).trans (a3 j hj), fun j hj => ?_, a5⟩
  by_cases hji : j = 6
  · subst hji
    exact ⟨_, _, _, _, am_pg1 _ _ _⟩
  · obtain ⟨k, t1, s1, c1, e⟩ := a4 j hj
    exact ⟨k, t1, s1, c1, (am_pg2 (by omega)).trans e⟩
theorem RailAt.own {h : Hp} {r n : Nat} {m tu m2 tu2 : Int} {kr : Nat → Nat} {T S C : Nat → Int} (R : RailAt h r n m tu kr T S C) : RailAt (am_put h r (rcell r n m2 tu2)) r n m2 tu2 kr T S C := by
  obtain ⟨a1, a2, a3, a4, a5⟩ := R
  refine ⟨am_pg1 _ _ _, (am_pg2 (by omega)).trans a2, fun j hj => (am_pg2 (by omega)).trans (a3 j hj), fun j hj => ?_, a5⟩
  obtain ⟨k, t1, s1, c1, e⟩ := a4 j hj
  exact ⟨k, t1, s1, c1, (am_pg2 (by omega)).trans e⟩
/-- only what stands before the n-th matters -/
theorem RailAt.cg {h : Hp} {r n : Nat} {m m2 tu : Int} {kr kr2 : Nat → Nat} {T S C T2 S2 C2 : Nat → Int} (R : RailAt h r n m tu kr T S C) (h0 : m = m2) (hh : ∀ i, i < n → kr i = kr2 i ∧ T i = T2 i ∧ S i = S2 i ∧ C i = C2 i) : RailAt h r n m2 tu kr2 T2 S2 C2 := by
  subst h0
  obtain ⟨a1, a2, a3, a4, a5⟩ := R
  refine ⟨a1, a2, fun i hi => ?_, a4, a5⟩
  obtain ⟨e1, e2, e3, e4⟩ := hh i hi
  rw [a3 i hi, e1, e2, e3, e4]
theorem Rng.fu {n : Nat} {T S C : Nat → Int} {i : Nat} {t s c : Int} (h : Rng n T S C) (ht : 0 ≤ t ∧ t ≤ 20) (hs : 0 ≤ s ∧ s ≤ 7) (hc : 0 ≤ c ∧ c ≤ 20) : Rng n (fu T i t) (fu S i s) (fu C i c) := by
  intro j hj
  have := h j hj
  by_cases c : j = i
  · subst c; rw [fu_at, fu_at, fu_at]; exact ⟨ht, hs, hc⟩
  · rw [fu_ne c, fu_ne c, fu_ne c]; exact this
/-- sums and bits of the children from c on, k of them -/
def bt (p : Nat → Bool) (c : Nat) : Nat → Int
  | 0 => 0
  | k + 1 => (if p c then 2 ^ c else 0) + bt p (c + 1) k
theorem i32_or0 (a : Int) : i32 a ||| i32 0 = i32 a := Int32.or_zero
theorem or_bit : ∀ c, c < 8 → ∀ a : Nat, a < 2 ^ c → i32 (a : Int) ||| i32 ((2 : Int) ^ c) = i32 ((a : Int) + (2 : Int) ^ c) := by decide +kernel
theorem shl_bit : ∀ c : Nat, c < 8 → i32 1 <<< (i32 (c : Int) &&& 31) = i32 ((2 : Int) ^ c) := by decide +kernel
theorem or_bitI {c : Nat} {a : Int} (hc : c < 8) (ha : 0 ≤ a ∧ a < 2 ^ c) : i32 a ||| i32 ((2 : Int) ^ c) = i32 (a + (2 : Int) ^ c) := by
  obtain ⟨n, rfl⟩ := Int.eq_ofNat_of_zero_le ha.1
  exact or_bit c hc n (by have := ha.2; exact_mod_cast this)
