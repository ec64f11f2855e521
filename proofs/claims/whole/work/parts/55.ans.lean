/-! what the calls answer, on the numbers (by program: wip/whole/spec_m.py) -/
def an_child (n : Nat) (K F T S C : Nat → Int) (c w : Int) : Int :=
  if 0 ≤ c ∧ c < (n : Int) then
    (if w = 0 then K c.toNat else if w = 1 then F c.toNat else if w = 2 then T c.toNat else if w = 3 then S c.toNat else if w = 4 then C c.toNat
    else if w = 5 then sp_holds (K c.toNat) (F c.toNat) else if w = 6 then sp_nd (K c.toNat) (F c.toNat) (S c.toNat) else if w = 7 then sp_fright (K c.toNat) (F c.toNat)
    else if w = 8 then sp_bears (K c.toNat) (F c.toNat) else if w = 9 then sp_passes (K c.toNat) else -1)
  else -1
def do_feels (c w v : Int) (X : RS) : Int × RS :=
  if 0 ≤ c ∧ c < (X.1 : Int) then
    (if w = 0 ∧ 0 ≤ v ∧ v ≤ 20 then (X.2.2.2.2.1 c.toNat, rsT c.toNat v X) else if w = 1 ∧ 0 ≤ v ∧ v ≤ 7 then (X.2.2.2.2.2.1 c.toNat, rsS c.toNat v X) else (-1, X))
  else (-1, X)
def do_minute (c w : Int) (X : RS) : Int × RS :=
  if (0 ≤ c ∧ c < (X.1 : Int)) ∧ 0 ≤ w ∧ w ≤ 3 then
    (if X.2.2.2.2.2.1 c.toNat < 7 ∧ X.2.1 < 999 then ((rsM c.toNat w X).2.2.2.2.1 c.toNat, rsM c.toNat w X) else (-3, X))
  else (-1, X)
def do_change (a b : Int) (X : RS) : Int × RS :=
  if (0 ≤ a ∧ a < (X.1 : Int)) ∧ (0 ≤ b ∧ b < (X.1 : Int)) ∧ a ≠ b then (1, rsX a.toNat b.toNat X) else (-1, X)
def do_rest (w : Int) (X : RS) : Int × RS := if 0 ≤ w ∧ w ≤ 9 then (sm (rsB w X).2.2.2.2.2.1 0 X.1, rsB w X) else (-1, X)
def nbr (n c : Nat) : Int := (if 0 < c then 1 else 0) + (if c + 1 < n then 1 else 0)
/-- HELPS: from c on, k of them, with the most and the best so far -/
def an_helps (n : Nat) (K F T S : Nat → Int) (c : Nat) (most best : Int) : Nat → Int
  | 0 => best
  | k + 1 => if rdB K F T S c = true ∧ most < sp_passes (K c) * nbr n c then an_helps n K F T S (c + 1) (sp_passes (K c) * nbr n c) (c : Int) k else an_helps n K F T S (c + 1) most best k
/-- BANDS: from week w on, k of them -/
def bandsL (t nd a v : Int) (w : Int) : Nat → Int
  | 0 => -4
  | k + 1 => if min 20 (t + w) < max 0 (nd - max 0 (a - w * v)) then w else if a - w * v ≤ 0 then -4 else bandsL t nd a v (w + 1) k
def an_bands (n : Nat) (K F T S : Nat → Int) (c a v : Int) : Int :=
  if (0 ≤ c ∧ c < (n : Int)) ∧ (0 ≤ a ∧ a ≤ 9) ∧ (1 ≤ v ∧ v ≤ 9) then
    (if S c.toNat = 7 then -3 else bandsL (T c.toNat) (sp_needs (K c.toNat) (F c.toNat) (S c.toNat)) a v 0 12)
  else -1
/-- DARE: what one gets -/
def dv (k f t s own oth : Int) : Int := if own = 0 then -oth else 1 + oth - (if s = 7 ∨ (s < 7 ∧ sp_needs k f s ≤ t) then 0 else sp_fright k f)
def dst (k f t s own oth : Int) : Bool := decide (dv k f t s (1 - own) oth ≤ dv k f t s own oth)
def dr2 (K F T S : Nat → Int) (a b : Nat) (u v : Int) : Bool := dst (K a) (F a) (T a) (S a) u v && dst (K b) (F b) (T b) (S b) v u
def an_dare (n : Nat) (K F T S : Nat → Int) (a b : Int) : Int :=
  if (0 ≤ a ∧ a < (n : Int)) ∧ (0 ≤ b ∧ b < (n : Int)) ∧ a ≠ b then
    (if dr2 K F T S a.toNat b.toNat 0 0 then 0 else if dr2 K F T S a.toNat b.toNat 0 1 then 1 else if dr2 K F T S a.toNat b.toNat 1 0 then 10 else if dr2 K F T S a.toNat b.toNat 1 1 then 11 else -4)
  else -1
def cdB (K F S C : Nat → Int) (c : Nat) (v : Int) (o : Nat) : Int := if o ≠ c ∧ S o < 7 ∧ sp_bears (K o) (F o) < min 20 (C o + v) then 1 else 0
def an_coldest (n : Nat) (K F S C : Nat → Int) (c v : Int) : Int :=
  if (0 ≤ c ∧ c < (n : Int)) ∧ (0 ≤ v ∧ v ≤ 60) then sm (cdB K F S C c.toNat v) 0 n else -1
def an_last (T S : Nat → Int) (c : Nat) (least : Int) : Nat → Int
  | 0 => least
  | k + 1 => if least = -4 ∨ S c < S least.toNat ∨ (S c = S least.toNat ∧ T c < T least.toNat) then an_last T S (c + 1) (c : Int) k else an_last T S (c + 1) least k
def an_count (n : Nat) (m : Int) (T S C : Nat → Int) (w : Int) : Int :=
  if w = 0 then (n : Int) else if w = 1 then m else if w = 2 then sm T 0 n else if w = 3 then sm S 0 n else if w = 4 then sm C 0 n else if w = 5 then bt (swB S) 0 n else -1
def Now (h : Hp) (x y : Nat) (X : RS) : Prop := ∃ (kr : Nat → Nat) (tu : Int), RK h (x + 10) y tu kr X
/-- a call that changes the rail alone -/
def Pst (h h1 : Hp) (x y : Nat) (r1 : Option Value) (z : Int × RS) : Prop := r1 = some (.int (i32 z.1)) ∧ Now h1 x y z.2 ∧ Fr h h1 (x + 10) (x + 19)
theorem pst_same {h : Hp} {x y n : Nat} {a m tu : Int} {kr : Nat → Nat} {K F T S C : Nat → Int} (R : RailAt h (x + 10) n m tu kr T S C) (hg : Rng n T S C) (ky : KY h y n kr K F) : Pst h h x y (some (.int (i32 a))) (a, (n, m, K, F, T, S, C)) := ⟨rfl, ⟨kr, tu, R, hg, ky⟩, Fr.rf _ _ _⟩
theorem sm_r {f : Nat → Int} {b : Int} {n : Nat} (hb : 0 ≤ b) (h : ∀ i, i < n → 0 ≤ f i ∧ f i ≤ b) : ∀ (k c : Nat), c + k ≤ n → 0 ≤ sm f c k ∧ sm f c k ≤ b * k := by
  intro k
  induction k with
  | zero => intro c _; simp [sm]
  | succ k ih =>
    intro c hc
    have h1 := ih (c + 1) (by omega)
    have h2 := h c (by omega)
    have e : b * ((k + 1 : Nat) : Int) = b * (k : Int) + b := by rw [Int.natCast_add, Int.mul_add]; omega
    rw [e]
    show 0 ≤ f c + sm f (c + 1) k ∧ f c + sm f (c + 1) k ≤ _
    omega
