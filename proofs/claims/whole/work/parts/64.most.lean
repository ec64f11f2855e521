/-! MOST STEPS (by program: wip/whole/spec_v.py) -/
def stp (X : RS) : Int := sm X.2.2.2.2.2.1 0 X.1
def anyS (X : RS) : Bool := anyB (fun j => rdB X.2.2.1 X.2.2.2.1 X.2.2.2.2.1 X.2.2.2.2.2.1 j || fgB X.2.2.1 X.2.2.2.1 X.2.2.2.2.1 X.2.2.2.2.2.1 j) 0 X.1
/-- from choice j on (whom and WAY), k of them -/
def msJ (g : RS → Int) (X : RS) (j : Nat) (most : Int) : Nat → Int
  | 0 => most
  | k + 1 => if X.2.2.2.2.2.1 (j / 3) < 7 then msJ g X (j + 1) (max most (g (rsM (j / 3) ((j % 3 : Nat) : Int) X))) k else msJ g X (j + 1) most k
def ms : Nat → RS → Int
  | 0, X => stp X
  | 1, X => stp X + (if anyS X = true then 1 else 0)
  | l + 2, X => msJ (ms (l + 1)) X 0 (stp X) (3 * X.1)
def fmJ (g : RS → Int) (X : RS) (j : Nat) (most : Int) : Nat → Int
  | 0 => -4
  | k + 1 => if X.2.2.2.2.2.1 (j / 3) < 7 then (if g (rsM (j / 3) ((j % 3 : Nat) : Int) X) = most then 10 * ((j / 3 : Nat) : Int) + ((j % 3 : Nat) : Int) else fmJ g X (j + 1) most k) else fmJ g X (j + 1) most k
def an_mostSteps (X : RS) (l w : Int) : Int :=
  if (0 ≤ l ∧ l ≤ 3) ∧ (0 ≤ w ∧ w ≤ 1) then (if w = 0 then ms l.toNat X else if l = 0 then -4 else fmJ (ms (l.toNat - 1)) X 0 (ms l.toNat X) (3 * X.1)) else -1
def RX (X : RS) : Prop := Rng X.1 X.2.2.2.2.1 X.2.2.2.2.2.1 X.2.2.2.2.2.2 ∧ (∀ i, i < X.1 → 0 ≤ X.2.2.2.1 i ∧ X.2.2.2.1 i ≤ 9) ∧ X.1 ≤ 6
theorem RX.min {X : RS} (h : RX X) {c : Nat} {way : Int} (hc : c < X.1) (hs : X.2.2.2.2.2.1 c < 7) : RX (rsM c way X) := by
  obtain ⟨n, m, K, F, T, S, C⟩ := X
  exact ⟨min_r h.1 h.2.1 hc hs, h.2⟩
theorem stp_r {X : RS} (h : RX X) : 0 ≤ stp X ∧ stp X ≤ 42 := by
  have := sm_r (f := X.2.2.2.2.2.1) (b := 7) (n := X.1) (by omega) (fun i hi => (h.1 i hi).2.1) X.1 0 (by omega)
  have h6 := h.2.2
  unfold stp
  omega
theorem msJ_r {g : RS → Int} {X : RS} (hX : RX X) (hg : ∀ (c : Nat) (w : Int), c < X.1 → X.2.2.2.2.2.1 c < 7 → 0 ≤ g (rsM c w X) ∧ g (rsM c w X) ≤ 100) : ∀ (k j : Nat) (most : Int), j + k ≤ 3 * X.1 → 0 ≤ most ∧ most ≤ 100 → 0 ≤ msJ g X j most k ∧ msJ g X j most k ≤ 100
  | 0, j, most, _, h => h
  | k + 1, j, most, hj, h => by
    simp only [msJ]
    split
    · rename_i hs
      have h1 := hg (j / 3) ((j % 3 : Nat) : Int) (by omega) hs
      exact msJ_r hX hg k (j + 1) _ (by omega) (by omega)
    · exact msJ_r hX hg k (j + 1) _ (by omega) h
theorem ms_r : ∀ (l : Nat) (X : RS), RX X → 0 ≤ ms l X ∧ ms l X ≤ 100
  | 0, X, h => by have := stp_r h; simp only [ms]; omega
  | 1, X, h => by have := stp_r h; simp only [ms]; split <;> omega
  | l + 2, X, h => by
    have := stp_r h
    exact msJ_r h (fun c w hc hs => ms_r (l + 1) _ (h.min hc hs)) _ _ _ (by omega) (by omega)
theorem tr_get {x L : Nat} (h : L < 3) : [Value.ref (x + 28), .ref (x + 37), .ref (x + 46)][((L : Nat) : Int).toNat]? = some (.ref (x + 28 + 9 * L)) := by
  rcases (show L = 0 ∨ L = 1 ∨ L = 2 by omega) with rfl | rfl | rfl <;> rfl
theorem Scr.tr {h : Hp} {x L : Nat} {hi : Int} (Z : Scr h x hi) (hL : L < 3) : RailAny h (x + 28 + 9 * L) := by
  obtain ⟨-, -, -, -, -, -, a, b, c, -⟩ := Z
  rcases (show L = 0 ∨ L = 1 ∨ L = 2 by omega) with rfl | rfl | rfl
  · exact a
  · exact b
  · exact c
theorem Scr.trl {h h1 : Hp} {x : Nat} {hi : Int} (Z : Scr h x hi) (f : Fr h h1 (x + 28) (x + 55)) (r : ∀ L, L < 3 → RailAny h1 (x + 28 + 9 * L)) : Scr h1 x hi := by
  obtain ⟨⟨bs, z0⟩, z1, ⟨f2, z2⟩, ⟨f3, z3⟩, ⟨f4, z4⟩, ⟨f5, z5⟩, a, b, c, p, q⟩ := Z
  exact ⟨⟨bs, (f.2 _ (by omega)).trans z0⟩, (f.2 _ (by omega)).trans z1, ⟨f2, (f.2 _ (by omega)).trans z2⟩, ⟨f3, (f.2 _ (by omega)).trans z3⟩, ⟨f4, (f.2 _ (by omega)).trans z4⟩, ⟨f5, (f.2 _ (by omega)).trans z5⟩, r 0 (by omega), r 1 (by omega), r 2 (by omega), p.eq (f.2 _ (by omega)), q.eq (f.2 _ (by omega))⟩
theorem Scr.lev {h h1 : Hp} {x L : Nat} {hi : Int} (Z : Scr h x hi) (hL : L < 3) (f : Fr h h1 (x + 28 + 9 * L) (x + 28 + 9 * L + 9)) (r : RailAny h1 (x + 28 + 9 * L)) : Scr h1 x hi := by
  refine Z.trl (f.wide (by omega) (by omega)) (fun M hM => ?_)
  by_cases e : M = L
  · subst e; exact r
  · exact (Z.tr hM).eq (fun q h1 h2 => f.2 q (by omega))
theorem Fr.s1 {h h1 : Hp} {x : Nat} (f : Fr h h1 (x + 28) (x + 55)) : FrS h h1 x := f.frS (fun q _ _ => by omega)
theorem x11_most0 {E : am_E} {d : Nat} {h : Hp} {x y n L : Nat} {hi m tu : Int} {kr : Nat → Nat} {K F T S C : Nat → Int}  (Z : Scr h x hi) (R : RailAt h (x + 28 + 9 * L) n m tu kr T S C) (hg : Rng n T S C) (ky : KY h y n kr K F) (hB : E.2 ≤ x) (hy : x + 57 ≤ y) (hL : L < 3)  : Ex E (d + 5) mX11_mostFrom 0 [.ref x, .int (i32 (L : Int)), .int (i32 0), .retAddr 0, .retAddr 0, .retAddr 0, .retAddr 0, .retAddr 0] [] h (fun r1 h1 => r1 = some (.int (i32 (ms 0 (n, m, K, F, T, S, C)))) ∧ h1 = h) := by
  obtain ⟨⟨bs, z0⟩, z1, -⟩ := id Z
  obtain ⟨hr, hA, hP, hG, hn6⟩ := id R
  have kk := ky.ok (r := x + 28 + 9 * L) (by omega)
  have hX : RX (n, m, K, F, T, S, C) := ⟨hg, fun i hi => (ky i hi).1.2.2.2, hn6⟩
  have hst := stp_r hX
  have est : stp (n, m, K, F, T, S, C) = sm S 0 n := rfl
  rw [est] at hst
  refine Ex_aload_n dX11_mostFrom_0 rfl rfl ?_
  refine Ex_getf dX11_mostFrom_1 rfl (by first | exact z0 | exact z1 | exact hr) rfl rfl rfl ?_
  refine Ex_iload_n dX11_mostFrom_4 rfl rfl ?_
  refine Ex_aald dX11_mostFrom_5 rfl (by first | exact z0 | exact z1 | exact hr) (by omega) (by omega) (tr_get (by omega)) ?_
  refine Ex_astore_n (L2 := [_, _, _, _, _, _, _, _]) dX11_mostFrom_6 rfl rfl rfl ?_
  refine Ex_aload_n dX11_mostFrom_7 rfl rfl ?_
  refine Ex_inv 2 dX11_mostFrom_8 rfl rfl (Or.inl rfl) rfl rfl rfl rfl hr rfl rfl rfl (Ex_post (x7_allSteps R hg) ?_)
  rintro _ _ ⟨rfl, e0⟩
  obtain rfl := Eq.symm e0
  refine Ex_istore (L2 := [_, _, _, _, _, _, _, _]) dX11_mostFrom_11 rfl rfl rfl ?_
  refine Ex_iload_n dX11_mostFrom_13 rfl rfl ?_
  refine Ex_iconst dX11_mostFrom_14 rfl ?_
  refine Ex_icmp_le (t := 29) dX11_mostFrom_15 rfl rfl (by omega) (fun c15 => ?_) (fun c15 => absurd c15 (by omega))
  refine Ex_iload_n dX11_mostFrom_29 rfl rfl ?_
  refine Ex_iconst dX11_mostFrom_30 rfl ?_
  refine Ex_icmp_lt (t := 48) dX11_mostFrom_31 rfl rfl (by omega) (fun c31 => ?_) (fun c31 => absurd c31 (by omega))
  refine Ex_iload dX11_mostFrom_48 rfl rfl ?_
  refine Ex_iret dX11_mostFrom_50 rfl rfl ?_
  exact ⟨rfl, rfl⟩
theorem x11_most1 {E : am_E} {d : Nat} {h : Hp} {x y n L : Nat} {hi m tu : Int} {kr : Nat → Nat} {K F T S C : Nat → Int}  (Z : Scr h x hi) (R : RailAt h (x + 28 + 9 * L) n m tu kr T S C) (hg : Rng n T S C) (ky : KY h y n kr K F) (hB : E.2 ≤ x) (hy : x + 57 ≤ y) (hL : L < 3)  : Ex E (d + 5) mX11_mostFrom 0 [.ref x, .int (i32 (L : Int)), .int (i32 1), .retAddr 0, .retAddr 0, .retAddr 0, .retAddr 0, .retAddr 0] [] h (fun r1 h1 => r1 = some (.int (i32 (ms 1 (n, m, K, F, T, S, C)))) ∧ h1 = h) := by
  obtain ⟨⟨bs, z0⟩, z1, -⟩ := id Z
  obtain ⟨hr, hA, hP, hG, hn6⟩ := id R
  have kk := ky.ok (r := x + 28 + 9 * L) (by omega)
  have hX : RX (n, m, K, F, T, S, C) := ⟨hg, fun i hi => (ky i hi).1.2.2.2, hn6⟩
  have hst := stp_r hX
  have est : stp (n, m, K, F, T, S, C) = sm S 0 n := rfl
  rw [est] at hst
  cases hA1 : anyB (fun j => rdB K F T S j || fgB K F T S j) 0 n
  · have e1 : ms 1 (n, m, K, F, T, S, C) = sm S 0 n := by
      show stp (n, m, K, F, T, S, C) + (if anyB (fun j => rdB K F T S j || fgB K F T S j) 0 n = true then 1 else 0) = _
      rw [hA1, if_neg (by decide), est, Int.add_zero]
    rw [e1]
    refine Ex_aload_n dX11_mostFrom_0 rfl rfl ?_
    refine Ex_getf dX11_mostFrom_1 rfl (by first | exact z0 | exact z1 | exact hr) rfl rfl rfl ?_
    refine Ex_iload_n dX11_mostFrom_4 rfl rfl ?_
    refine Ex_aald dX11_mostFrom_5 rfl (by first | exact z0 | exact z1 | exact hr) (by omega) (by omega) (tr_get (by omega)) ?_
    refine Ex_astore_n (L2 := [_, _, _, _, _, _, _, _]) dX11_mostFrom_6 rfl rfl rfl ?_
    refine Ex_aload_n dX11_mostFrom_7 rfl rfl ?_
    refine Ex_inv 2 dX11_mostFrom_8 rfl rfl (Or.inl rfl) rfl rfl rfl rfl hr rfl rfl rfl (Ex_post (x7_allSteps R hg) ?_)
    rintro _ _ ⟨rfl, e0⟩
    obtain rfl := Eq.symm e0
    refine Ex_istore (L2 := [_, _, _, _, _, _, _, _]) dX11_mostFrom_11 rfl rfl rfl ?_
    refine Ex_iload_n dX11_mostFrom_13 rfl rfl ?_
    refine Ex_iconst dX11_mostFrom_14 rfl ?_
    refine Ex_icmp_le (t := 29) dX11_mostFrom_15 rfl rfl (by omega) (fun c15 => ?_) (fun c15 => absurd c15 (by omega))
    refine Ex_iload_n dX11_mostFrom_29 rfl rfl ?_
    refine Ex_iconst dX11_mostFrom_30 rfl ?_
    refine Ex_icmp_lt (t := 48) dX11_mostFrom_31 rfl rfl (by omega) (fun c31 => absurd c31 (by omega)) (fun c31 => ?_)
    refine Ex_aload_n dX11_mostFrom_34 rfl rfl ?_
    refine Ex_inv 2 dX11_mostFrom_35 rfl rfl (Or.inl rfl) rfl rfl rfl rfl hr rfl rfl rfl (Ex_post (x7_anyCanStep R hg kk) ?_)
    rintro _ _ ⟨rfl, e0⟩
    obtain rfl := Eq.symm e0
    refine Ex_if_eq (t := 48) dX11_mostFrom_38 rfl rfl (by rw [hA1]; simp) (fun c38 => ?_) (fun c38 => absurd c38 (by rw [hA1] at c38; simp at c38))
    refine Ex_iload dX11_mostFrom_48 rfl rfl ?_
    refine Ex_iret dX11_mostFrom_50 rfl rfl ?_
    exact ⟨rfl, rfl⟩
  · have e1 : ms 1 (n, m, K, F, T, S, C) = sm S 0 n + 1 := by
      show stp (n, m, K, F, T, S, C) + (if anyB (fun j => rdB K F T S j || fgB K F T S j) 0 n = true then 1 else 0) = _
      rw [hA1, if_pos rfl, est]
    rw [e1]
    refine Ex_aload_n dX11_mostFrom_0 rfl rfl ?_
    refine Ex_getf dX11_mostFrom_1 rfl (by first | exact z0 | exact z1 | exact hr) rfl rfl rfl ?_
    refine Ex_iload_n dX11_mostFrom_4 rfl rfl ?_
    refine Ex_aald dX11_mostFrom_5 rfl (by first | exact z0 | exact z1 | exact hr) (by omega) (by omega) (tr_get (by omega)) ?_
    refine Ex_astore_n (L2 := [_, _, _, _, _, _, _, _]) dX11_mostFrom_6 rfl rfl rfl ?_
    refine Ex_aload_n dX11_mostFrom_7 rfl rfl ?_
    refine Ex_inv 2 dX11_mostFrom_8 rfl rfl (Or.inl rfl) rfl rfl rfl rfl hr rfl rfl rfl (Ex_post (x7_allSteps R hg) ?_)
    rintro _ _ ⟨rfl, e0⟩
    obtain rfl := Eq.symm e0
    refine Ex_istore (L2 := [_, _, _, _, _, _, _, _]) dX11_mostFrom_11 rfl rfl rfl ?_
    refine Ex_iload_n dX11_mostFrom_13 rfl rfl ?_
    refine Ex_iconst dX11_mostFrom_14 rfl ?_
    refine Ex_icmp_le (t := 29) dX11_mostFrom_15 rfl rfl (by omega) (fun c15 => ?_) (fun c15 => absurd c15 (by omega))
    refine Ex_iload_n dX11_mostFrom_29 rfl rfl ?_
    refine Ex_iconst dX11_mostFrom_30 rfl ?_
    refine Ex_icmp_lt (t := 48) dX11_mostFrom_31 rfl rfl (by omega) (fun c31 => absurd c31 (by omega)) (fun c31 => ?_)
    refine Ex_aload_n dX11_mostFrom_34 rfl rfl ?_
    refine Ex_inv 2 dX11_mostFrom_35 rfl rfl (Or.inl rfl) rfl rfl rfl rfl hr rfl rfl rfl (Ex_post (x7_anyCanStep R hg kk) ?_)
    rintro _ _ ⟨rfl, e0⟩
    obtain rfl := Eq.symm e0
    refine Ex_if_eq (t := 48) dX11_mostFrom_38 rfl rfl (by rw [hA1]; simp) (fun c38 => absurd c38 (by rw [hA1] at c38; simp at c38)) (fun c38 => ?_)
    refine Ex_iload dX11_mostFrom_41 rfl rfl ?_
    refine Ex_iconst dX11_mostFrom_43 rfl ?_
    refine Ex_iadd dX11_mostFrom_44 rfl ?_
    refine Ex_goto (t := 50) dX11_mostFrom_45 rfl ?_
    refine Ex_iret dX11_mostFrom_50 rfl rfl ?_
    exact ⟨rfl, rfl⟩
theorem x11_most_l {E : am_E} {d D x y n L l : Nat} {hi m tu : Int} {kr : Nat → Nat} {K F T S C : Nat → Int} (hg : Rng n T S C) (hB : E.2 ≤ x) (hy : x + 57 ≤ y) (hL : L < 2) (hD : 5 ≤ D) (ihl : ∀ (h : Hp) (m tu : Int) (T S C : Nat → Int), Scr h x hi → RailAt h (x + 28 + 9 * (L + 1)) n m tu kr T S C → Rng n T S C → KY h y n kr K F → Ex E (d + D) mX11_mostFrom 0 [.ref x, .int (i32 ((L + 1 : Nat) : Int)), .int (i32 ((l + 1 : Nat) : Int)), .retAddr 0, .retAddr 0, .retAddr 0, .retAddr 0, .retAddr 0] [] h (fun r1 h1 => r1 = some (.int (i32 (ms (l + 1) (n, m, K, F, T, S, C)))) ∧ Scr h1 x hi ∧ Fr h h1 (x + 28 + 9 * (L + 1) + 9) (x + 55))) : ∀ (k c wy : Nat) (most : Int) (h : Hp), c < n → wy ≤ 2 → 3 * c + wy + k = 3 * n → 0 ≤ most ∧ most ≤ 100 → Scr h x hi → RailAt h (x + 28 + 9 * L) n m tu kr T S C → KY h y n kr K F → Ex E (d + D + 1) mX11_mostFrom 76 [.ref x, .int (i32 (L : Int)), .int (i32 ((l + 2 : Nat) : Int)), .ref (x + 28 + 9 * L), .int (i32 most), .ref (x + 28 + 9 * (L + 1)), .int (i32 (c : Int)), .int (i32 (wy : Int))] [] h (fun r1 h1 => r1 = some (.int (i32 (msJ (ms (l + 1)) (n, m, K, F, T, S, C) (3 * c + wy) most k))) ∧ Scr h1 x hi ∧ Fr h h1 (x + 28 + 9 * (L + 1)) (x + 55)) := by
  intro k
  induction k with
  | zero => intro c wy most h hc hw hk; omega
  | succ k ih =>
    intro c wy most h hc hw hk hmo Z R ky
    obtain ⟨⟨bs, z0⟩, z1, -⟩ := id Z
    obtain ⟨hr, hA, hP, hG, hn6⟩ := id R
    have kk := ky.ok (r := x + 28 + 9 * L) (by omega)
    have hX : RX (n, m, K, F, T, S, C) := ⟨hg, fun i hi => (ky i hi).1.2.2.2, hn6⟩
    have hst := stp_r hX
    have est : stp (n, m, K, F, T, S, C) = sm S 0 n := rfl
    rw [est] at hst
    have hgc := hg c hc
    have e1 : (3 * c + wy) / 3 = c := by omega
    have e2 : (3 * c + wy) % 3 = wy := by omega
    have eb : msJ (ms (l + 1)) (n, m, K, F, T, S, C) (3 * c + wy) most (k + 1) = if S c < 7 then msJ (ms (l + 1)) (n, m, K, F, T, S, C) (3 * c + wy + 1) (max most (ms (l + 1) (rsM c (wy : Int) (n, m, K, F, T, S, C)))) k else msJ (ms (l + 1)) (n, m, K, F, T, S, C) (3 * c + wy + 1) most k := by
      simp only [msJ, e1, e2]
    rw [eb]
    obtain ⟨n7, m7, tu7, kr7, T7, S7, C7, R7⟩ := Z.tr (L := L + 1) (by omega)
    by_cases q : S c < 7
    rotate_left
    all_goals rcases (show wy < 2 ∨ (wy = 2 ∧ c + 1 < n) ∨ (wy = 2 ∧ c + 1 = n) by omega) with p | ⟨p, p2⟩ | ⟨p, p2⟩
    · rw [if_neg q]
      refine Ex_iload dX11_mostFrom_76 rfl rfl ?_
      refine Ex_iconst dX11_mostFrom_78 rfl ?_
      refine Ex_icmp_gt (t := 132) dX11_mostFrom_79 rfl rfl (by omega) (fun c79 => absurd c79 (by omega)) (fun c79 => ?_)
      refine Ex_aload_n dX11_mostFrom_82 rfl rfl ?_
      refine Ex_iload dX11_mostFrom_83 rfl rfl ?_
      refine Ex_iload dX11_mostFrom_85 rfl rfl ?_
      refine Ex_inv 2 dX11_mostFrom_87 rfl rfl (Or.inl rfl) rfl rfl rfl rfl hr rfl rfl rfl (Ex_post (Ex_d (x7_canTake (d := 0) (c := (c : Int)) (way := (wy : Int)) R hg (by omega) (by omega)) (by omega)) ?_)
      rintro _ _ ⟨rfl, e0⟩
      obtain rfl := Eq.symm e0
      refine Ex_if_eq (t := 126) dX11_mostFrom_90 rfl rfl (by split <;> omega) (fun c90 => ?_) (fun c90 => absurd c90 (by rw [if_neg (fun z => q (by simpa using z.2.1))] at c90; omega))
      refine Ex_iinc (L2 := [_, _, _, _, _, _, _, _]) dX11_mostFrom_126 rfl rfl rfl ?_
      refine Ex_goto (t := 76) dX11_mostFrom_129 rfl ?_
      refine Ex_post (ih c (wy + 1) most h hc (by omega) (by omega) (by omega) Z R ky) ?_
      rintro r1 h1 ⟨rfl, y2, y3⟩
      exact ⟨rfl, y2, y3⟩
    · rw [if_neg q]
      refine Ex_iload dX11_mostFrom_76 rfl rfl ?_
      refine Ex_iconst dX11_mostFrom_78 rfl ?_
      refine Ex_icmp_gt (t := 132) dX11_mostFrom_79 rfl rfl (by omega) (fun c79 => absurd c79 (by omega)) (fun c79 => ?_)
      refine Ex_aload_n dX11_mostFrom_82 rfl rfl ?_
      refine Ex_iload dX11_mostFrom_83 rfl rfl ?_
      refine Ex_iload dX11_mostFrom_85 rfl rfl ?_
      refine Ex_inv 2 dX11_mostFrom_87 rfl rfl (Or.inl rfl) rfl rfl rfl rfl hr rfl rfl rfl (Ex_post (Ex_d (x7_canTake (d := 0) (c := (c : Int)) (way := (wy : Int)) R hg (by omega) (by omega)) (by omega)) ?_)
      rintro _ _ ⟨rfl, e0⟩
      obtain rfl := Eq.symm e0
      refine Ex_if_eq (t := 126) dX11_mostFrom_90 rfl rfl (by split <;> omega) (fun c90 => ?_) (fun c90 => absurd c90 (by rw [if_neg (fun z => q (by simpa using z.2.1))] at c90; omega))
      refine Ex_iinc (L2 := [_, _, _, _, _, _, _, _]) dX11_mostFrom_126 rfl rfl rfl ?_
      refine Ex_goto (t := 76) dX11_mostFrom_129 rfl ?_
      refine Ex_iload dX11_mostFrom_76 rfl rfl ?_
      refine Ex_iconst dX11_mostFrom_78 rfl ?_
      refine Ex_icmp_gt (t := 132) dX11_mostFrom_79 rfl rfl (by omega) (fun c79 => ?_) (fun c79 => absurd c79 (by omega))
      refine Ex_iinc (L2 := [_, _, _, _, _, _, _, _]) dX11_mostFrom_132 rfl rfl rfl ?_
      refine Ex_goto (t := 64) dX11_mostFrom_135 rfl ?_
      refine Ex_iload dX11_mostFrom_64 rfl rfl ?_
      refine Ex_aload_n dX11_mostFrom_66 rfl rfl ?_
      refine Ex_getf dX11_mostFrom_67 rfl hr rfl rfl rfl ?_
      refine Ex_icmp_ge (t := 138) dX11_mostFrom_70 rfl rfl (by omega) (fun c70 => absurd c70 (by omega)) (fun c70 => ?_)
      refine Ex_iconst dX11_mostFrom_73 rfl ?_
      refine Ex_istore (L2 := [_, _, _, _, _, _, _, _]) dX11_mostFrom_74 rfl rfl rfl ?_
      rw [show 3 * c + wy + 1 = 3 * (c + 1) + 0 by omega]
      refine Ex_post (ih (c + 1) 0 most h p2 (by omega) (by omega) (by omega) Z R ky) ?_
      rintro r1 h1 ⟨rfl, y2, y3⟩
      exact ⟨rfl, y2, y3⟩
    · rw [if_neg q]
      refine Ex_iload dX11_mostFrom_76 rfl rfl ?_
      refine Ex_iconst dX11_mostFrom_78 rfl ?_
      refine Ex_icmp_gt (t := 132) dX11_mostFrom_79 rfl rfl (by omega) (fun c79 => absurd c79 (by omega)) (fun c79 => ?_)
      refine Ex_aload_n dX11_mostFrom_82 rfl rfl ?_
      refine Ex_iload dX11_mostFrom_83 rfl rfl ?_
      refine Ex_iload dX11_mostFrom_85 rfl rfl ?_
      refine Ex_inv 2 dX11_mostFrom_87 rfl rfl (Or.inl rfl) rfl rfl rfl rfl hr rfl rfl rfl (Ex_post (Ex_d (x7_canTake (d := 0) (c := (c : Int)) (way := (wy : Int)) R hg (by omega) (by omega)) (by omega)) ?_)
      rintro _ _ ⟨rfl, e0⟩
      obtain rfl := Eq.symm e0
      refine Ex_if_eq (t := 126) dX11_mostFrom_90 rfl rfl (by split <;> omega) (fun c90 => ?_) (fun c90 => absurd c90 (by rw [if_neg (fun z => q (by simpa using z.2.1))] at c90; omega))
      refine Ex_iinc (L2 := [_, _, _, _, _, _, _, _]) dX11_mostFrom_126 rfl rfl rfl ?_
      refine Ex_goto (t := 76) dX11_mostFrom_129 rfl ?_
      refine Ex_iload dX11_mostFrom_76 rfl rfl ?_
      refine Ex_iconst dX11_mostFrom_78 rfl ?_
      refine Ex_icmp_gt (t := 132) dX11_mostFrom_79 rfl rfl (by omega) (fun c79 => ?_) (fun c79 => absurd c79 (by omega))
      refine Ex_iinc (L2 := [_, _, _, _, _, _, _, _]) dX11_mostFrom_132 rfl rfl rfl ?_
      refine Ex_goto (t := 64) dX11_mostFrom_135 rfl ?_
      refine Ex_iload dX11_mostFrom_64 rfl rfl ?_
      refine Ex_aload_n dX11_mostFrom_66 rfl rfl ?_
      refine Ex_getf dX11_mostFrom_67 rfl hr rfl rfl rfl ?_
      refine Ex_icmp_ge (t := 138) dX11_mostFrom_70 rfl rfl (by omega) (fun c70 => ?_) (fun c70 => absurd c70 (by omega))
      refine Ex_iload dX11_mostFrom_138 rfl rfl ?_
      refine Ex_iret dX11_mostFrom_140 rfl rfl ?_
      obtain rfl : k = 0 := by omega
      exact ⟨rfl, Z, Fr.rf _ _ _⟩
    · rw [if_pos q]
      refine Ex_iload dX11_mostFrom_76 rfl rfl ?_
      refine Ex_iconst dX11_mostFrom_78 rfl ?_
      refine Ex_icmp_gt (t := 132) dX11_mostFrom_79 rfl rfl (by omega) (fun c79 => absurd c79 (by omega)) (fun c79 => ?_)
      refine Ex_aload_n dX11_mostFrom_82 rfl rfl ?_
      refine Ex_iload dX11_mostFrom_83 rfl rfl ?_
      refine Ex_iload dX11_mostFrom_85 rfl rfl ?_
      refine Ex_inv 2 dX11_mostFrom_87 rfl rfl (Or.inl rfl) rfl rfl rfl rfl hr rfl rfl rfl (Ex_post (Ex_d (x7_canTake (d := 0) (c := (c : Int)) (way := (wy : Int)) R hg (by omega) (by omega)) (by omega)) ?_)
      rintro _ _ ⟨rfl, e0⟩
      obtain rfl := Eq.symm e0
      refine Ex_if_eq (t := 126) dX11_mostFrom_90 rfl rfl (by split <;> omega) (fun c90 => absurd c90 (by rw [if_pos ⟨by omega, by simpa using q, by omega⟩] at c90; omega)) (fun c90 => ?_)
      refine Ex_aload dX11_mostFrom_93 rfl rfl ?_
      refine Ex_aload_n dX11_mostFrom_95 rfl rfl ?_
      refine Ex_inv 2 dX11_mostFrom_96 rfl rfl (Or.inl rfl) rfl rfl rfl rfl R7.1 rfl rfl rfl (Ex_post (Ex_d (x7_setTo (d := 0) R7 R (by omega) (by omega)) (by omega)) ?_)
      rintro _ h1 ⟨rfl, R1, f1⟩
      refine Ex_aload dX11_mostFrom_99 rfl rfl ?_
      refine Ex_iload dX11_mostFrom_101 rfl rfl ?_
      refine Ex_iload dX11_mostFrom_103 rfl rfl ?_
      refine Ex_inv 2 dX11_mostFrom_105 rfl rfl (Or.inl rfl) rfl rfl rfl rfl R1.1 rfl rfl rfl (Ex_post (Ex_d (x7_take (d := 0) R1 hg ((ky.fr f1 (by omega)).ok (by omega)) (by omega) hc q (by omega)) (by omega)) ?_)
      rintro _ h2 ⟨rfl, R2, f2⟩
      have g2 := min_r (K := K) (way := (wy : Int)) hg (fun i hi => (ky i hi).1.2.2.2) hc q
      have ky2 := (ky.fr f1 (by omega)).fr f2 (by omega)
      have Z2 := (Z.lev (by omega) f1 R1.any).lev (by omega) f2 R2.any
      have hms := ms_r (l + 1) _ (hX.min (way := (wy : Int)) hc q)
      refine Ex_pop dX11_mostFrom_108 rfl rfl ?_
      refine Ex_iload dX11_mostFrom_109 rfl rfl ?_
      refine Ex_aload_n dX11_mostFrom_111 rfl rfl ?_
      refine Ex_iload_n dX11_mostFrom_112 rfl rfl ?_
      refine Ex_iconst dX11_mostFrom_113 rfl ?_
      refine Ex_iadd dX11_mostFrom_114 rfl ?_
      refine Ex_iload_n dX11_mostFrom_115 rfl rfl ?_
      refine Ex_iconst dX11_mostFrom_116 rfl ?_
      refine Ex_isub dX11_mostFrom_117 rfl ?_
      rw [show (L : Int) + 1 = ((L + 1 : Nat) : Int) by omega, show ((l + 2 : Nat) : Int) - 1 = ((l + 1 : Nat) : Int) by omega]
      refine Ex_inv 2 dX11_mostFrom_118 rfl rfl (Or.inl rfl) rfl rfl rfl rfl ((f2.2 _ (by omega)).trans ((f1.2 _ (by omega)).trans z0)) rfl rfl rfl (Ex_post (ihl h2 _ _ _ _ _ Z2 R2 g2 ky2) ?_)
      rintro _ h3 ⟨rfl, Z3, f3⟩
      have e3 : ms (l + 1) (n, m + 1, K, F, minT n c (wy : Int) K F T S C, mnS c (wy : Int) K F T S, minC n c (wy : Int) K F T S C) = ms (l + 1) (rsM c (wy : Int) (n, m, K, F, T, S, C)) := rfl
      rw [e3]
      have hms2 : 0 ≤ ms (l + 1) (rsM c (wy : Int) (n, m, K, F, T, S, C)) ∧ ms (l + 1) (rsM c (wy : Int) (n, m, K, F, T, S, C)) ≤ 100 := hms
      have R3 := ((R.fr f1 (by omega)).fr f2 (by omega)).fr f3 (by omega)
      have ky3 := ky2.fr f3 (by omega)
      have fT : Fr h h3 (x + 28 + 9 * (L + 1)) (x + 55) := ((f1.wide (Nat.le_refl _) (by omega)).trans (f2.wide (Nat.le_refl _) (by omega))).trans (f3.wide (by omega) (Nat.le_refl _))
      refine Ex_max dX11_mostFrom_121 rfl rfl rfl (by omega) ?_
      refine Ex_istore (L2 := [_, _, _, _, _, _, _, _]) dX11_mostFrom_124 rfl rfl rfl ?_
      refine Ex_iinc (L2 := [_, _, _, _, _, _, _, _]) dX11_mostFrom_126 rfl rfl rfl ?_
      refine Ex_goto (t := 76) dX11_mostFrom_129 rfl ?_
      refine Ex_post (ih c (wy + 1) (max most (ms (l + 1) (rsM c (wy : Int) (n, m, K, F, T, S, C)))) h3 hc (by omega) (by omega) (by omega) Z3 R3 ky3) ?_
      rintro r1 h1 ⟨rfl, y2, y3⟩
      exact ⟨rfl, y2, (fT.trans y3)⟩
    · rw [if_pos q]
      refine Ex_iload dX11_mostFrom_76 rfl rfl ?_
      refine Ex_iconst dX11_mostFrom_78 rfl ?_
      refine Ex_icmp_gt (t := 132) dX11_mostFrom_79 rfl rfl (by omega) (fun c79 => absurd c79 (by omega)) (fun c79 => ?_)
      refine Ex_aload_n dX11_mostFrom_82 rfl rfl ?_
      refine Ex_iload dX11_mostFrom_83 rfl rfl ?_
      refine Ex_iload dX11_mostFrom_85 rfl rfl ?_
      refine Ex_inv 2 dX11_mostFrom_87 rfl rfl (Or.inl rfl) rfl rfl rfl rfl hr rfl rfl rfl (Ex_post (Ex_d (x7_canTake (d := 0) (c := (c : Int)) (way := (wy : Int)) R hg (by omega) (by omega)) (by omega)) ?_)
      rintro _ _ ⟨rfl, e0⟩
      obtain rfl := Eq.symm e0
      refine Ex_if_eq (t := 126) dX11_mostFrom_90 rfl rfl (by split <;> omega) (fun c90 => absurd c90 (by rw [if_pos ⟨by omega, by simpa using q, by omega⟩] at c90; omega)) (fun c90 => ?_)
      refine Ex_aload dX11_mostFrom_93 rfl rfl ?_
      refine Ex_aload_n dX11_mostFrom_95 rfl rfl ?_
      refine Ex_inv 2 dX11_mostFrom_96 rfl rfl (Or.inl rfl) rfl rfl rfl rfl R7.1 rfl rfl rfl (Ex_post (Ex_d (x7_setTo (d := 0) R7 R (by omega) (by omega)) (by omega)) ?_)
      rintro _ h1 ⟨rfl, R1, f1⟩
      refine Ex_aload dX11_mostFrom_99 rfl rfl ?_
      refine Ex_iload dX11_mostFrom_101 rfl rfl ?_
      refine Ex_iload dX11_mostFrom_103 rfl rfl ?_
      refine Ex_inv 2 dX11_mostFrom_105 rfl rfl (Or.inl rfl) rfl rfl rfl rfl R1.1 rfl rfl rfl (Ex_post (Ex_d (x7_take (d := 0) R1 hg ((ky.fr f1 (by omega)).ok (by omega)) (by omega) hc q (by omega)) (by omega)) ?_)
      rintro _ h2 ⟨rfl, R2, f2⟩
      have g2 := min_r (K := K) (way := (wy : Int)) hg (fun i hi => (ky i hi).1.2.2.2) hc q
      have ky2 := (ky.fr f1 (by omega)).fr f2 (by omega)
      have Z2 := (Z.lev (by omega) f1 R1.any).lev (by omega) f2 R2.any
      have hms := ms_r (l + 1) _ (hX.min (way := (wy : Int)) hc q)
      refine Ex_pop dX11_mostFrom_108 rfl rfl ?_
      refine Ex_iload dX11_mostFrom_109 rfl rfl ?_
      refine Ex_aload_n dX11_mostFrom_111 rfl rfl ?_
      refine Ex_iload_n dX11_mostFrom_112 rfl rfl ?_
      refine Ex_iconst dX11_mostFrom_113 rfl ?_
      refine Ex_iadd dX11_mostFrom_114 rfl ?_
      refine Ex_iload_n dX11_mostFrom_115 rfl rfl ?_
      refine Ex_iconst dX11_mostFrom_116 rfl ?_
      refine Ex_isub dX11_mostFrom_117 rfl ?_
      rw [show (L : Int) + 1 = ((L + 1 : Nat) : Int) by omega, show ((l + 2 : Nat) : Int) - 1 = ((l + 1 : Nat) : Int) by omega]
      refine Ex_inv 2 dX11_mostFrom_118 rfl rfl (Or.inl rfl) rfl rfl rfl rfl ((f2.2 _ (by omega)).trans ((f1.2 _ (by omega)).trans z0)) rfl rfl rfl (Ex_post (ihl h2 _ _ _ _ _ Z2 R2 g2 ky2) ?_)
      rintro _ h3 ⟨rfl, Z3, f3⟩
      have e3 : ms (l + 1) (n, m + 1, K, F, minT n c (wy : Int) K F T S C, mnS c (wy : Int) K F T S, minC n c (wy : Int) K F T S C) = ms (l + 1) (rsM c (wy : Int) (n, m, K, F, T, S, C)) := rfl
      rw [e3]
      have hms2 : 0 ≤ ms (l + 1) (rsM c (wy : Int) (n, m, K, F, T, S, C)) ∧ ms (l + 1) (rsM c (wy : Int) (n, m, K, F, T, S, C)) ≤ 100 := hms
      have R3 := ((R.fr f1 (by omega)).fr f2 (by omega)).fr f3 (by omega)
      have ky3 := ky2.fr f3 (by omega)
      have fT : Fr h h3 (x + 28 + 9 * (L + 1)) (x + 55) := ((f1.wide (Nat.le_refl _) (by omega)).trans (f2.wide (Nat.le_refl _) (by omega))).trans (f3.wide (by omega) (Nat.le_refl _))
      refine Ex_max dX11_mostFrom_121 rfl rfl rfl (by omega) ?_
      refine Ex_istore (L2 := [_, _, _, _, _, _, _, _]) dX11_mostFrom_124 rfl rfl rfl ?_
      refine Ex_iinc (L2 := [_, _, _, _, _, _, _, _]) dX11_mostFrom_126 rfl rfl rfl ?_
      refine Ex_goto (t := 76) dX11_mostFrom_129 rfl ?_
      refine Ex_iload dX11_mostFrom_76 rfl rfl ?_
      refine Ex_iconst dX11_mostFrom_78 rfl ?_
      refine Ex_icmp_gt (t := 132) dX11_mostFrom_79 rfl rfl (by omega) (fun c79 => ?_) (fun c79 => absurd c79 (by omega))
      refine Ex_iinc (L2 := [_, _, _, _, _, _, _, _]) dX11_mostFrom_132 rfl rfl rfl ?_
      refine Ex_goto (t := 64) dX11_mostFrom_135 rfl ?_
      refine Ex_iload dX11_mostFrom_64 rfl rfl ?_
      refine Ex_aload_n dX11_mostFrom_66 rfl rfl ?_
      refine Ex_getf dX11_mostFrom_67 rfl R3.1 rfl rfl rfl ?_
      refine Ex_icmp_ge (t := 138) dX11_mostFrom_70 rfl rfl (by omega) (fun c70 => absurd c70 (by omega)) (fun c70 => ?_)
      refine Ex_iconst dX11_mostFrom_73 rfl ?_
      refine Ex_istore (L2 := [_, _, _, _, _, _, _, _]) dX11_mostFrom_74 rfl rfl rfl ?_
      rw [show 3 * c + wy + 1 = 3 * (c + 1) + 0 by omega]
      refine Ex_post (ih (c + 1) 0 (max most (ms (l + 1) (rsM c (wy : Int) (n, m, K, F, T, S, C)))) h3 p2 (by omega) (by omega) (by omega) Z3 R3 ky3) ?_
      rintro r1 h1 ⟨rfl, y2, y3⟩
      exact ⟨rfl, y2, (fT.trans y3)⟩
    · rw [if_pos q]
      refine Ex_iload dX11_mostFrom_76 rfl rfl ?_
      refine Ex_iconst dX11_mostFrom_78 rfl ?_
      refine Ex_icmp_gt (t := 132) dX11_mostFrom_79 rfl rfl (by omega) (fun c79 => absurd c79 (by omega)) (fun c79 => ?_)
      refine Ex_aload_n dX11_mostFrom_82 rfl rfl ?_
      refine Ex_iload dX11_mostFrom_83 rfl rfl ?_
      refine Ex_iload dX11_mostFrom_85 rfl rfl ?_
      refine Ex_inv 2 dX11_mostFrom_87 rfl rfl (Or.inl rfl) rfl rfl rfl rfl hr rfl rfl rfl (Ex_post (Ex_d (x7_canTake (d := 0) (c := (c : Int)) (way := (wy : Int)) R hg (by omega) (by omega)) (by omega)) ?_)
      rintro _ _ ⟨rfl, e0⟩
      obtain rfl := Eq.symm e0
      refine Ex_if_eq (t := 126) dX11_mostFrom_90 rfl rfl (by split <;> omega) (fun c90 => absurd c90 (by rw [if_pos ⟨by omega, by simpa using q, by omega⟩] at c90; omega)) (fun c90 => ?_)
      refine Ex_aload dX11_mostFrom_93 rfl rfl ?_
      refine Ex_aload_n dX11_mostFrom_95 rfl rfl ?_
      refine Ex_inv 2 dX11_mostFrom_96 rfl rfl (Or.inl rfl) rfl rfl rfl rfl R7.1 rfl rfl rfl (Ex_post (Ex_d (x7_setTo (d := 0) R7 R (by omega) (by omega)) (by omega)) ?_)
      rintro _ h1 ⟨rfl, R1, f1⟩
      refine Ex_aload dX11_mostFrom_99 rfl rfl ?_
      refine Ex_iload dX11_mostFrom_101 rfl rfl ?_
      refine Ex_iload dX11_mostFrom_103 rfl rfl ?_
      refine Ex_inv 2 dX11_mostFrom_105 rfl rfl (Or.inl rfl) rfl rfl rfl rfl R1.1 rfl rfl rfl (Ex_post (Ex_d (x7_take (d := 0) R1 hg ((ky.fr f1 (by omega)).ok (by omega)) (by omega) hc q (by omega)) (by omega)) ?_)
      rintro _ h2 ⟨rfl, R2, f2⟩
      have g2 := min_r (K := K) (way := (wy : Int)) hg (fun i hi => (ky i hi).1.2.2.2) hc q
      have ky2 := (ky.fr f1 (by omega)).fr f2 (by omega)
      have Z2 := (Z.lev (by omega) f1 R1.any).lev (by omega) f2 R2.any
      have hms := ms_r (l + 1) _ (hX.min (way := (wy : Int)) hc q)
      refine Ex_pop dX11_mostFrom_108 rfl rfl ?_
      refine Ex_iload dX11_mostFrom_109 rfl rfl ?_
      refine Ex_aload_n dX11_mostFrom_111 rfl rfl ?_
      refine Ex_iload_n dX11_mostFrom_112 rfl rfl ?_
      refine Ex_iconst dX11_mostFrom_113 rfl ?_
      refine Ex_iadd dX11_mostFrom_114 rfl ?_
      refine Ex_iload_n dX11_mostFrom_115 rfl rfl ?_
      refine Ex_iconst dX11_mostFrom_116 rfl ?_
      refine Ex_isub dX11_mostFrom_117 rfl ?_
      rw [show (L : Int) + 1 = ((L + 1 : Nat) : Int) by omega, show ((l + 2 : Nat) : Int) - 1 = ((l + 1 : Nat) : Int) by omega]
      refine Ex_inv 2 dX11_mostFrom_118 rfl rfl (Or.inl rfl) rfl rfl rfl rfl ((f2.2 _ (by omega)).trans ((f1.2 _ (by omega)).trans z0)) rfl rfl rfl (Ex_post (ihl h2 _ _ _ _ _ Z2 R2 g2 ky2) ?_)
      rintro _ h3 ⟨rfl, Z3, f3⟩
      have e3 : ms (l + 1) (n, m + 1, K, F, minT n c (wy : Int) K F T S C, mnS c (wy : Int) K F T S, minC n c (wy : Int) K F T S C) = ms (l + 1) (rsM c (wy : Int) (n, m, K, F, T, S, C)) := rfl
      rw [e3]
      have hms2 : 0 ≤ ms (l + 1) (rsM c (wy : Int) (n, m, K, F, T, S, C)) ∧ ms (l + 1) (rsM c (wy : Int) (n, m, K, F, T, S, C)) ≤ 100 := hms
      have R3 := ((R.fr f1 (by omega)).fr f2 (by omega)).fr f3 (by omega)
      have ky3 := ky2.fr f3 (by omega)
      have fT : Fr h h3 (x + 28 + 9 * (L + 1)) (x + 55) := ((f1.wide (Nat.le_refl _) (by omega)).trans (f2.wide (Nat.le_refl _) (by omega))).trans (f3.wide (by omega) (Nat.le_refl _))
      refine Ex_max dX11_mostFrom_121 rfl rfl rfl (by omega) ?_
      refine Ex_istore (L2 := [_, _, _, _, _, _, _, _]) dX11_mostFrom_124 rfl rfl rfl ?_
      refine Ex_iinc (L2 := [_, _, _, _, _, _, _, _]) dX11_mostFrom_126 rfl rfl rfl ?_
      refine Ex_goto (t := 76) dX11_mostFrom_129 rfl ?_
      refine Ex_iload dX11_mostFrom_76 rfl rfl ?_
      refine Ex_iconst dX11_mostFrom_78 rfl ?_
      refine Ex_icmp_gt (t := 132) dX11_mostFrom_79 rfl rfl (by omega) (fun c79 => ?_) (fun c79 => absurd c79 (by omega))
      refine Ex_iinc (L2 := [_, _, _, _, _, _, _, _]) dX11_mostFrom_132 rfl rfl rfl ?_
      refine Ex_goto (t := 64) dX11_mostFrom_135 rfl ?_
      refine Ex_iload dX11_mostFrom_64 rfl rfl ?_
      refine Ex_aload_n dX11_mostFrom_66 rfl rfl ?_
      refine Ex_getf dX11_mostFrom_67 rfl R3.1 rfl rfl rfl ?_
      refine Ex_icmp_ge (t := 138) dX11_mostFrom_70 rfl rfl (by omega) (fun c70 => ?_) (fun c70 => absurd c70 (by omega))
      refine Ex_iload dX11_mostFrom_138 rfl rfl ?_
      refine Ex_iret dX11_mostFrom_140 rfl rfl ?_
      obtain rfl : k = 0 := by omega
      exact ⟨rfl, Z3, fT⟩
theorem x11_most2 {E : am_E} {d : Nat} {h : Hp} {x y n L : Nat} {hi m tu : Int} {kr : Nat → Nat} {K F T S C : Nat → Int}  (Z : Scr h x hi) (R : RailAt h (x + 28 + 9 * L) n m tu kr T S C) (hg : Rng n T S C) (ky : KY h y n kr K F) (hB : E.2 ≤ x) (hy : x + 57 ≤ y) (hL : L < 2)  : Ex E (d + 6) mX11_mostFrom 0 [.ref x, .int (i32 (L : Int)), .int (i32 2), .retAddr 0, .retAddr 0, .retAddr 0, .retAddr 0, .retAddr 0] [] h (fun r1 h1 => r1 = some (.int (i32 (ms 2 (n, m, K, F, T, S, C)))) ∧ Scr h1 x hi ∧ Fr h h1 (x + 28 + 9 * L + 9) (x + 55)) := by
  obtain ⟨⟨bs, z0⟩, z1, -⟩ := id Z
  obtain ⟨hr, hA, hP, hG, hn6⟩ := id R
  have kk := ky.ok (r := x + 28 + 9 * L) (by omega)
  have hX : RX (n, m, K, F, T, S, C) := ⟨hg, fun i hi => (ky i hi).1.2.2.2, hn6⟩
  have hst := stp_r hX
  have est : stp (n, m, K, F, T, S, C) = sm S 0 n := rfl
  rw [est] at hst
  by_cases q0 : 0 < n
  · have eb : ms 2 (n, m, K, F, T, S, C) = msJ (ms 1) (n, m, K, F, T, S, C) 0 (sm S 0 n) (3 * n) := rfl
    rw [eb]
    refine Ex_aload_n dX11_mostFrom_0 rfl rfl ?_
    refine Ex_getf dX11_mostFrom_1 rfl (by first | exact z0 | exact z1 | exact hr) rfl rfl rfl ?_
    refine Ex_iload_n dX11_mostFrom_4 rfl rfl ?_
    refine Ex_aald dX11_mostFrom_5 rfl (by first | exact z0 | exact z1 | exact hr) (by omega) (by omega) (tr_get (by omega)) ?_
    refine Ex_astore_n (L2 := [_, _, _, _, _, _, _, _]) dX11_mostFrom_6 rfl rfl rfl ?_
    refine Ex_aload_n dX11_mostFrom_7 rfl rfl ?_
    refine Ex_inv 2 dX11_mostFrom_8 rfl rfl (Or.inl rfl) rfl rfl rfl rfl hr rfl rfl rfl (Ex_post (x7_allSteps R hg) ?_)
    rintro _ _ ⟨rfl, e0⟩
    obtain rfl := Eq.symm e0
    refine Ex_istore (L2 := [_, _, _, _, _, _, _, _]) dX11_mostFrom_11 rfl rfl rfl ?_
    refine Ex_iload_n dX11_mostFrom_13 rfl rfl ?_
    refine Ex_iconst dX11_mostFrom_14 rfl ?_
    refine Ex_icmp_le (t := 29) dX11_mostFrom_15 rfl rfl (by omega) (fun c15 => absurd c15 (by omega)) (fun c15 => ?_)
    refine Ex_iload_n dX11_mostFrom_18 rfl rfl ?_
    refine Ex_iconst dX11_mostFrom_19 rfl ?_
    refine Ex_iadd dX11_mostFrom_20 rfl ?_
    refine Ex_aload_n dX11_mostFrom_21 rfl rfl ?_
    refine Ex_getf dX11_mostFrom_22 rfl (by first | exact z0 | exact z1 | exact hr) rfl rfl rfl ?_
    refine Ex_alen (n := 3) dX11_mostFrom_25 rfl (by first | exact z0 | exact z1 | exact hr) (by omega) rfl ?_
    refine Ex_icmp_lt (t := 51) dX11_mostFrom_26 rfl rfl (by omega) (fun c26 => ?_) (fun c26 => absurd c26 (by omega))
    refine Ex_aload_n dX11_mostFrom_51 rfl rfl ?_
    refine Ex_getf dX11_mostFrom_52 rfl (by first | exact z0 | exact z1 | exact hr) rfl rfl rfl ?_
    refine Ex_iload_n dX11_mostFrom_55 rfl rfl ?_
    refine Ex_iconst dX11_mostFrom_56 rfl ?_
    refine Ex_iadd dX11_mostFrom_57 rfl ?_
    refine Ex_aald dX11_mostFrom_58 rfl (by first | exact z0 | exact z1 | exact hr) (by omega) (by omega) (by have e9 := tr_get (x := x) (L := L + 1) (by omega); exact e9) ?_
    refine Ex_astore (L2 := [_, _, _, _, _, _, _, _]) dX11_mostFrom_59 rfl rfl rfl ?_
    refine Ex_iconst dX11_mostFrom_61 rfl ?_
    refine Ex_istore (L2 := [_, _, _, _, _, _, _, _]) dX11_mostFrom_62 rfl rfl rfl ?_
    refine Ex_iload dX11_mostFrom_64 rfl rfl ?_
    refine Ex_aload_n dX11_mostFrom_66 rfl rfl ?_
    refine Ex_getf dX11_mostFrom_67 rfl (by first | exact z0 | exact z1 | exact hr) rfl rfl rfl ?_
    refine Ex_icmp_ge (t := 138) dX11_mostFrom_70 rfl rfl (by omega) (fun c70 => absurd c70 (by omega)) (fun c70 => ?_)
    refine Ex_iconst dX11_mostFrom_73 rfl ?_
    refine Ex_istore (L2 := [_, _, _, _, _, _, _, _]) dX11_mostFrom_74 rfl rfl rfl ?_
    exact x11_most_l (l := 0) (D := 5) hg hB hy (by omega) (by omega) (fun h2 m2 tu2 T2 S2 C2 Z2 R2 g2 ky2 => Ex_post (x11_most1 (L := L + 1) (d := d) Z2 R2 g2 ky2 hB hy (by omega)) (fun r1 h1 z => ⟨z.1, by rw [z.2]; exact Z2, by rw [z.2]; exact Fr.rf _ _ _⟩)) (3 * n) 0 0 (sm S 0 n) h q0 (by omega) (by omega) (by omega) Z R ky
  · obtain rfl : n = 0 := by omega
    have eb : ms 2 (0, m, K, F, T, S, C) = sm S 0 0 := rfl
    rw [eb]
    refine Ex_aload_n dX11_mostFrom_0 rfl rfl ?_
    refine Ex_getf dX11_mostFrom_1 rfl (by first | exact z0 | exact z1 | exact hr) rfl rfl rfl ?_
    refine Ex_iload_n dX11_mostFrom_4 rfl rfl ?_
    refine Ex_aald dX11_mostFrom_5 rfl (by first | exact z0 | exact z1 | exact hr) (by omega) (by omega) (tr_get (by omega)) ?_
    refine Ex_astore_n (L2 := [_, _, _, _, _, _, _, _]) dX11_mostFrom_6 rfl rfl rfl ?_
    refine Ex_aload_n dX11_mostFrom_7 rfl rfl ?_
    refine Ex_inv 2 dX11_mostFrom_8 rfl rfl (Or.inl rfl) rfl rfl rfl rfl hr rfl rfl rfl (Ex_post (x7_allSteps R hg) ?_)
    rintro _ _ ⟨rfl, e0⟩
    obtain rfl := Eq.symm e0
    refine Ex_istore (L2 := [_, _, _, _, _, _, _, _]) dX11_mostFrom_11 rfl rfl rfl ?_
    refine Ex_iload_n dX11_mostFrom_13 rfl rfl ?_
    refine Ex_iconst dX11_mostFrom_14 rfl ?_
    refine Ex_icmp_le (t := 29) dX11_mostFrom_15 rfl rfl (by omega) (fun c15 => absurd c15 (by omega)) (fun c15 => ?_)
    refine Ex_iload_n dX11_mostFrom_18 rfl rfl ?_
    refine Ex_iconst dX11_mostFrom_19 rfl ?_
    refine Ex_iadd dX11_mostFrom_20 rfl ?_
    refine Ex_aload_n dX11_mostFrom_21 rfl rfl ?_
    refine Ex_getf dX11_mostFrom_22 rfl (by first | exact z0 | exact z1 | exact hr) rfl rfl rfl ?_
    refine Ex_alen (n := 3) dX11_mostFrom_25 rfl (by first | exact z0 | exact z1 | exact hr) (by omega) rfl ?_
    refine Ex_icmp_lt (t := 51) dX11_mostFrom_26 rfl rfl (by omega) (fun c26 => ?_) (fun c26 => absurd c26 (by omega))
    refine Ex_aload_n dX11_mostFrom_51 rfl rfl ?_
    refine Ex_getf dX11_mostFrom_52 rfl (by first | exact z0 | exact z1 | exact hr) rfl rfl rfl ?_
    refine Ex_iload_n dX11_mostFrom_55 rfl rfl ?_
    refine Ex_iconst dX11_mostFrom_56 rfl ?_
    refine Ex_iadd dX11_mostFrom_57 rfl ?_
    refine Ex_aald dX11_mostFrom_58 rfl (by first | exact z0 | exact z1 | exact hr) (by omega) (by omega) (by have e9 := tr_get (x := x) (L := L + 1) (by omega); exact e9) ?_
    refine Ex_astore (L2 := [_, _, _, _, _, _, _, _]) dX11_mostFrom_59 rfl rfl rfl ?_
    refine Ex_iconst dX11_mostFrom_61 rfl ?_
    refine Ex_istore (L2 := [_, _, _, _, _, _, _, _]) dX11_mostFrom_62 rfl rfl rfl ?_
    refine Ex_iload dX11_mostFrom_64 rfl rfl ?_
    refine Ex_aload_n dX11_mostFrom_66 rfl rfl ?_
    refine Ex_getf dX11_mostFrom_67 rfl (by first | exact z0 | exact z1 | exact hr) rfl rfl rfl ?_
    refine Ex_icmp_ge (t := 138) dX11_mostFrom_70 rfl rfl (by omega) (fun c70 => ?_) (fun c70 => absurd c70 (by omega))
    refine Ex_iload dX11_mostFrom_138 rfl rfl ?_
    refine Ex_iret dX11_mostFrom_140 rfl rfl ?_
    exact ⟨rfl, Z, Fr.rf _ _ _⟩
theorem x11_most3 {E : am_E} {d : Nat} {h : Hp} {x y n L : Nat} {hi m tu : Int} {kr : Nat → Nat} {K F T S C : Nat → Int}  (Z : Scr h x hi) (R : RailAt h (x + 28 + 9 * L) n m tu kr T S C) (hg : Rng n T S C) (ky : KY h y n kr K F) (hB : E.2 ≤ x) (hy : x + 57 ≤ y) (hL : L < 1)  : Ex E (d + 7) mX11_mostFrom 0 [.ref x, .int (i32 (L : Int)), .int (i32 3), .retAddr 0, .retAddr 0, .retAddr 0, .retAddr 0, .retAddr 0] [] h (fun r1 h1 => r1 = some (.int (i32 (ms 3 (n, m, K, F, T, S, C)))) ∧ Scr h1 x hi ∧ Fr h h1 (x + 28 + 9 * L + 9) (x + 55)) := by
  obtain ⟨⟨bs, z0⟩, z1, -⟩ := id Z
  obtain ⟨hr, hA, hP, hG, hn6⟩ := id R
  have kk := ky.ok (r := x + 28 + 9 * L) (by omega)
  have hX : RX (n, m, K, F, T, S, C) := ⟨hg, fun i hi => (ky i hi).1.2.2.2, hn6⟩
  have hst := stp_r hX
  have est : stp (n, m, K, F, T, S, C) = sm S 0 n := rfl
  rw [est] at hst
  by_cases q0 : 0 < n
  · have eb : ms 3 (n, m, K, F, T, S, C) = msJ (ms 2) (n, m, K, F, T, S, C) 0 (sm S 0 n) (3 * n) := rfl
    rw [eb]
    refine Ex_aload_n dX11_mostFrom_0 rfl rfl ?_
    refine Ex_getf dX11_mostFrom_1 rfl (by first | exact z0 | exact z1 | exact hr) rfl rfl rfl ?_
    refine Ex_iload_n dX11_mostFrom_4 rfl rfl ?_
    refine Ex_aald dX11_mostFrom_5 rfl (by first | exact z0 | exact z1 | exact hr) (by omega) (by omega) (tr_get (by omega)) ?_
    refine Ex_astore_n (L2 := [_, _, _, _, _, _, _, _]) dX11_mostFrom_6 rfl rfl rfl ?_
    refine Ex_aload_n dX11_mostFrom_7 rfl rfl ?_
    refine Ex_inv 2 dX11_mostFrom_8 rfl rfl (Or.inl rfl) rfl rfl rfl rfl hr rfl rfl rfl (Ex_post (x7_allSteps R hg) ?_)
    rintro _ _ ⟨rfl, e0⟩
    obtain rfl := Eq.symm e0
    refine Ex_istore (L2 := [_, _, _, _, _, _, _, _]) dX11_mostFrom_11 rfl rfl rfl ?_
    refine Ex_iload_n dX11_mostFrom_13 rfl rfl ?_
    refine Ex_iconst dX11_mostFrom_14 rfl ?_
    refine Ex_icmp_le (t := 29) dX11_mostFrom_15 rfl rfl (by omega) (fun c15 => absurd c15 (by omega)) (fun c15 => ?_)
    refine Ex_iload_n dX11_mostFrom_18 rfl rfl ?_
    refine Ex_iconst dX11_mostFrom_19 rfl ?_
    refine Ex_iadd dX11_mostFrom_20 rfl ?_
    refine Ex_aload_n dX11_mostFrom_21 rfl rfl ?_
    refine Ex_getf dX11_mostFrom_22 rfl (by first | exact z0 | exact z1 | exact hr) rfl rfl rfl ?_
    refine Ex_alen (n := 3) dX11_mostFrom_25 rfl (by first | exact z0 | exact z1 | exact hr) (by omega) rfl ?_
    refine Ex_icmp_lt (t := 51) dX11_mostFrom_26 rfl rfl (by omega) (fun c26 => ?_) (fun c26 => absurd c26 (by omega))
    refine Ex_aload_n dX11_mostFrom_51 rfl rfl ?_
    refine Ex_getf dX11_mostFrom_52 rfl (by first | exact z0 | exact z1 | exact hr) rfl rfl rfl ?_
    refine Ex_iload_n dX11_mostFrom_55 rfl rfl ?_
    refine Ex_iconst dX11_mostFrom_56 rfl ?_
    refine Ex_iadd dX11_mostFrom_57 rfl ?_
    refine Ex_aald dX11_mostFrom_58 rfl (by first | exact z0 | exact z1 | exact hr) (by omega) (by omega) (by have e9 := tr_get (x := x) (L := L + 1) (by omega); exact e9) ?_
    refine Ex_astore (L2 := [_, _, _, _, _, _, _, _]) dX11_mostFrom_59 rfl rfl rfl ?_
    refine Ex_iconst dX11_mostFrom_61 rfl ?_
    refine Ex_istore (L2 := [_, _, _, _, _, _, _, _]) dX11_mostFrom_62 rfl rfl rfl ?_
    refine Ex_iload dX11_mostFrom_64 rfl rfl ?_
    refine Ex_aload_n dX11_mostFrom_66 rfl rfl ?_
    refine Ex_getf dX11_mostFrom_67 rfl (by first | exact z0 | exact z1 | exact hr) rfl rfl rfl ?_
    refine Ex_icmp_ge (t := 138) dX11_mostFrom_70 rfl rfl (by omega) (fun c70 => absurd c70 (by omega)) (fun c70 => ?_)
    refine Ex_iconst dX11_mostFrom_73 rfl ?_
    refine Ex_istore (L2 := [_, _, _, _, _, _, _, _]) dX11_mostFrom_74 rfl rfl rfl ?_
    exact x11_most_l (l := 1) (D := 6) hg hB hy (by omega) (by omega) (fun h2 m2 tu2 T2 S2 C2 Z2 R2 g2 ky2 => x11_most2 (L := L + 1) (d := d) Z2 R2 g2 ky2 hB hy (by omega)) (3 * n) 0 0 (sm S 0 n) h q0 (by omega) (by omega) (by omega) Z R ky
  · obtain rfl : n = 0 := by omega
    have eb : ms 3 (0, m, K, F, T, S, C) = sm S 0 0 := rfl
    rw [eb]
    refine Ex_aload_n dX11_mostFrom_0 rfl rfl ?_
    refine Ex_getf dX11_mostFrom_1 rfl (by first | exact z0 | exact z1 | exact hr) rfl rfl rfl ?_
    refine Ex_iload_n dX11_mostFrom_4 rfl rfl ?_
    refine Ex_aald dX11_mostFrom_5 rfl (by first | exact z0 | exact z1 | exact hr) (by omega) (by omega) (tr_get (by omega)) ?_
    refine Ex_astore_n (L2 := [_, _, _, _, _, _, _, _]) dX11_mostFrom_6 rfl rfl rfl ?_
    refine Ex_aload_n dX11_mostFrom_7 rfl rfl ?_
    refine Ex_inv 2 dX11_mostFrom_8 rfl rfl (Or.inl rfl) rfl rfl rfl rfl hr rfl rfl rfl (Ex_post (x7_allSteps R hg) ?_)
    rintro _ _ ⟨rfl, e0⟩
    obtain rfl := Eq.symm e0
    refine Ex_istore (L2 := [_, _, _, _, _, _, _, _]) dX11_mostFrom_11 rfl rfl rfl ?_
    refine Ex_iload_n dX11_mostFrom_13 rfl rfl ?_
    refine Ex_iconst dX11_mostFrom_14 rfl ?_
    refine Ex_icmp_le (t := 29) dX11_mostFrom_15 rfl rfl (by omega) (fun c15 => absurd c15 (by omega)) (fun c15 => ?_)
    refine Ex_iload_n dX11_mostFrom_18 rfl rfl ?_
    refine Ex_iconst dX11_mostFrom_19 rfl ?_
    refine Ex_iadd dX11_mostFrom_20 rfl ?_
    refine Ex_aload_n dX11_mostFrom_21 rfl rfl ?_
    refine Ex_getf dX11_mostFrom_22 rfl (by first | exact z0 | exact z1 | exact hr) rfl rfl rfl ?_
    refine Ex_alen (n := 3) dX11_mostFrom_25 rfl (by first | exact z0 | exact z1 | exact hr) (by omega) rfl ?_
    refine Ex_icmp_lt (t := 51) dX11_mostFrom_26 rfl rfl (by omega) (fun c26 => ?_) (fun c26 => absurd c26 (by omega))
    refine Ex_aload_n dX11_mostFrom_51 rfl rfl ?_
    refine Ex_getf dX11_mostFrom_52 rfl (by first | exact z0 | exact z1 | exact hr) rfl rfl rfl ?_
    refine Ex_iload_n dX11_mostFrom_55 rfl rfl ?_
    refine Ex_iconst dX11_mostFrom_56 rfl ?_
    refine Ex_iadd dX11_mostFrom_57 rfl ?_
    refine Ex_aald dX11_mostFrom_58 rfl (by first | exact z0 | exact z1 | exact hr) (by omega) (by omega) (by have e9 := tr_get (x := x) (L := L + 1) (by omega); exact e9) ?_
    refine Ex_astore (L2 := [_, _, _, _, _, _, _, _]) dX11_mostFrom_59 rfl rfl rfl ?_
    refine Ex_iconst dX11_mostFrom_61 rfl ?_
    refine Ex_istore (L2 := [_, _, _, _, _, _, _, _]) dX11_mostFrom_62 rfl rfl rfl ?_
    refine Ex_iload dX11_mostFrom_64 rfl rfl ?_
    refine Ex_aload_n dX11_mostFrom_66 rfl rfl ?_
    refine Ex_getf dX11_mostFrom_67 rfl (by first | exact z0 | exact z1 | exact hr) rfl rfl rfl ?_
    refine Ex_icmp_ge (t := 138) dX11_mostFrom_70 rfl rfl (by omega) (fun c70 => ?_) (fun c70 => absurd c70 (by omega))
    refine Ex_iload dX11_mostFrom_138 rfl rfl ?_
    refine Ex_iret dX11_mostFrom_140 rfl rfl ?_
    exact ⟨rfl, Z, Fr.rf _ _ _⟩
theorem x11_most {E : am_E} {d x y n l : Nat} {h : Hp} {hi m tu : Int} {kr : Nat → Nat} {K F T S C : Nat → Int} (Z : Scr h x hi) (R : RailAt h (x + 28) n m tu kr T S C) (hg : Rng n T S C) (ky : KY h y n kr K F) (hB : E.2 ≤ x) (hy : x + 57 ≤ y) (hl : l ≤ 3) : Ex E (d + 7) mX11_mostFrom 0 [.ref x, .int (i32 0), .int (i32 (l : Int)), .retAddr 0, .retAddr 0, .retAddr 0, .retAddr 0, .retAddr 0] [] h (fun r1 h1 => r1 = some (.int (i32 (ms l (n, m, K, F, T, S, C)))) ∧ Scr h1 x hi ∧ Fr h h1 (x + 37) (x + 55)) := by
  rcases (show l = 0 ∨ l = 1 ∨ l = 2 ∨ l = 3 by omega) with rfl | rfl | rfl | rfl
  · exact Ex_d (Ex_post (x11_most0 (d := d) (L := 0) Z R hg ky hB hy (by omega)) (fun r1 h1 z => ⟨z.1, by rw [z.2]; exact Z, by rw [z.2]; exact Fr.rf _ _ _⟩)) (by omega)
  · exact Ex_d (Ex_post (x11_most1 (d := d) (L := 0) Z R hg ky hB hy (by omega)) (fun r1 h1 z => ⟨z.1, by rw [z.2]; exact Z, by rw [z.2]; exact Fr.rf _ _ _⟩)) (by omega)
  · exact Ex_d (x11_most2 (d := d) (L := 0) Z R hg ky hB hy (by omega)) (by omega)
  · exact x11_most3 (d := d) (L := 0) Z R hg ky hB hy (by omega)
theorem x11_first_l {E : am_E} {d x y n l : Nat} {hi m tu most : Int} {kr : Nat → Nat} {K F T S C : Nat → Int} (hg : Rng n T S C) (hB : E.2 ≤ x) (hy : x + 57 ≤ y) (hl : l ≤ 2) (hmo : 0 ≤ most ∧ most ≤ 100) : ∀ (k c wy : Nat) (h : Hp), c < n → wy ≤ 2 → 3 * c + wy + k = 3 * n → Scr h x hi → RailAt h (x + 10) n m tu kr T S C → KY h y n kr K F → Ex E (d + 8) mX11_firstMinuteTo 20 [.ref x, .int (i32 most), .int (i32 ((l + 1 : Nat) : Int)), .int (i32 (c : Int)), .int (i32 (wy : Int))] [] h (fun r1 h1 => Qs h h1 x hi (fmJ (ms l) (n, m, K, F, T, S, C) (3 * c + wy) most k) r1) := by
  intro k
  induction k with
  | zero => intro c wy h hc hw hk; omega
  | succ k ih =>
    intro c wy h hc hw hk Z R ky
    obtain ⟨⟨bs, z0⟩, z1, ⟨f2, z2⟩, ⟨f3, z3⟩, ⟨f4, z4⟩, ⟨f5, z5⟩, zr0, zr1, zr2, ⟨k5, t5, s5, c5, z55⟩, ⟨k6, t6, s6, c6, z56⟩⟩ := id Z
    obtain ⟨hr, hA, hP, hG, hn6⟩ := id R
    have kk := ky.ok (r := x + 10) (by omega)
    have hgc := hg c hc
    have hX : RX (n, m, K, F, T, S, C) := ⟨hg, fun i hi => (ky i hi).1.2.2.2, hn6⟩
    have e1 : (3 * c + wy) / 3 = c := by omega
    have e2 : (3 * c + wy) % 3 = wy := by omega
    have eb : fmJ (ms l) (n, m, K, F, T, S, C) (3 * c + wy) most (k + 1) = if S c < 7 then (if ms l (rsM c (wy : Int) (n, m, K, F, T, S, C)) = most then 10 * (c : Int) + (wy : Int) else fmJ (ms l) (n, m, K, F, T, S, C) (3 * c + wy + 1) most k) else fmJ (ms l) (n, m, K, F, T, S, C) (3 * c + wy + 1) most k := by
      simp only [fmJ, e1, e2]
    rw [eb]
    by_cases q : S c < 7
    rotate_left
    all_goals rcases (show wy < 2 ∨ (wy = 2 ∧ c + 1 < n) ∨ (wy = 2 ∧ c + 1 = n) by omega) with p | ⟨p, p2⟩ | ⟨p, p2⟩
    · rw [if_neg q]
      refine Ex_iload dX11_firstMinuteTo_20 rfl rfl ?_
      refine Ex_iconst dX11_firstMinuteTo_22 rfl ?_
      refine Ex_icmp_gt (t := 76) dX11_firstMinuteTo_23 rfl rfl (by omega) (fun c23 => absurd c23 (by omega)) (fun c23 => ?_)
      refine Ex_aload_n dX11_firstMinuteTo_26 rfl rfl ?_
      refine Ex_getf dX11_firstMinuteTo_27 rfl (by first | exact z0 | exact hr) rfl rfl rfl ?_
      refine Ex_iload_n dX11_firstMinuteTo_30 rfl rfl ?_
      refine Ex_iload dX11_firstMinuteTo_31 rfl rfl ?_
      refine Ex_inv 2 dX11_firstMinuteTo_33 rfl rfl (Or.inl rfl) rfl rfl rfl rfl hr rfl rfl rfl (Ex_post (x7_canTake (c := (c : Int)) (way := (wy : Int)) R hg (by omega) (by omega)) ?_)
      rintro _ _ ⟨rfl, e0⟩
      obtain rfl := Eq.symm e0
      refine Ex_if_eq (t := 70) dX11_firstMinuteTo_36 rfl rfl (by split <;> omega) (fun c36 => ?_) (fun c36 => absurd c36 (by rw [if_neg (fun z => q (by simpa using z.2.1))] at c36; omega))
      refine Ex_iinc (L2 := [_, _, _, _, _]) dX11_firstMinuteTo_70 rfl rfl rfl ?_
      refine Ex_goto (t := 20) dX11_firstMinuteTo_73 rfl ?_
      exact ih c (wy + 1) h hc (by omega) (by omega) Z R ky
    · rw [if_neg q]
      refine Ex_iload dX11_firstMinuteTo_20 rfl rfl ?_
      refine Ex_iconst dX11_firstMinuteTo_22 rfl ?_
      refine Ex_icmp_gt (t := 76) dX11_firstMinuteTo_23 rfl rfl (by omega) (fun c23 => absurd c23 (by omega)) (fun c23 => ?_)
      refine Ex_aload_n dX11_firstMinuteTo_26 rfl rfl ?_
      refine Ex_getf dX11_firstMinuteTo_27 rfl (by first | exact z0 | exact hr) rfl rfl rfl ?_
      refine Ex_iload_n dX11_firstMinuteTo_30 rfl rfl ?_
      refine Ex_iload dX11_firstMinuteTo_31 rfl rfl ?_
      refine Ex_inv 2 dX11_firstMinuteTo_33 rfl rfl (Or.inl rfl) rfl rfl rfl rfl hr rfl rfl rfl (Ex_post (x7_canTake (c := (c : Int)) (way := (wy : Int)) R hg (by omega) (by omega)) ?_)
      rintro _ _ ⟨rfl, e0⟩
      obtain rfl := Eq.symm e0
      refine Ex_if_eq (t := 70) dX11_firstMinuteTo_36 rfl rfl (by split <;> omega) (fun c36 => ?_) (fun c36 => absurd c36 (by rw [if_neg (fun z => q (by simpa using z.2.1))] at c36; omega))
      refine Ex_iinc (L2 := [_, _, _, _, _]) dX11_firstMinuteTo_70 rfl rfl rfl ?_
      refine Ex_goto (t := 20) dX11_firstMinuteTo_73 rfl ?_
      refine Ex_iload dX11_firstMinuteTo_20 rfl rfl ?_
      refine Ex_iconst dX11_firstMinuteTo_22 rfl ?_
      refine Ex_icmp_gt (t := 76) dX11_firstMinuteTo_23 rfl rfl (by omega) (fun c23 => ?_) (fun c23 => absurd c23 (by omega))
      refine Ex_iinc (L2 := [_, _, _, _, _]) dX11_firstMinuteTo_76 rfl rfl rfl ?_
      refine Ex_goto (t := 2) dX11_firstMinuteTo_79 rfl ?_
      refine Ex_iload_n dX11_firstMinuteTo_2 rfl rfl ?_
      refine Ex_aload_n dX11_firstMinuteTo_3 rfl rfl ?_
      refine Ex_getf dX11_firstMinuteTo_4 rfl (by first | exact z0 | exact hr) rfl rfl rfl ?_
      refine Ex_getf dX11_firstMinuteTo_7 rfl (by first | exact z0 | exact hr) rfl rfl rfl ?_
      refine Ex_icmp_ge (t := 82) dX11_firstMinuteTo_10 rfl rfl (by omega) (fun c10 => absurd c10 (by omega)) (fun c10 => ?_)
      refine Ex_iload_n dX11_firstMinuteTo_13 rfl rfl ?_
      refine Ex_if_le (t := 82) dX11_firstMinuteTo_14 rfl rfl (by omega) (fun c14 => absurd c14 (by omega)) (fun c14 => ?_)
      refine Ex_iconst dX11_firstMinuteTo_17 rfl ?_
      refine Ex_istore (L2 := [_, _, _, _, _]) dX11_firstMinuteTo_18 rfl rfl rfl ?_
      rw [show 3 * c + wy + 1 = 3 * (c + 1) + 0 by omega]
      exact ih (c + 1) 0 h p2 (by omega) (by omega) Z R ky
    · rw [if_neg q]
      refine Ex_iload dX11_firstMinuteTo_20 rfl rfl ?_
      refine Ex_iconst dX11_firstMinuteTo_22 rfl ?_
      refine Ex_icmp_gt (t := 76) dX11_firstMinuteTo_23 rfl rfl (by omega) (fun c23 => absurd c23 (by omega)) (fun c23 => ?_)
      refine Ex_aload_n dX11_firstMinuteTo_26 rfl rfl ?_
      refine Ex_getf dX11_firstMinuteTo_27 rfl (by first | exact z0 | exact hr) rfl rfl rfl ?_
      refine Ex_iload_n dX11_firstMinuteTo_30 rfl rfl ?_
      refine Ex_iload dX11_firstMinuteTo_31 rfl rfl ?_
      refine Ex_inv 2 dX11_firstMinuteTo_33 rfl rfl (Or.inl rfl) rfl rfl rfl rfl hr rfl rfl rfl (Ex_post (x7_canTake (c := (c : Int)) (way := (wy : Int)) R hg (by omega) (by omega)) ?_)
      rintro _ _ ⟨rfl, e0⟩
      obtain rfl := Eq.symm e0
      refine Ex_if_eq (t := 70) dX11_firstMinuteTo_36 rfl rfl (by split <;> omega) (fun c36 => ?_) (fun c36 => absurd c36 (by rw [if_neg (fun z => q (by simpa using z.2.1))] at c36; omega))
      refine Ex_iinc (L2 := [_, _, _, _, _]) dX11_firstMinuteTo_70 rfl rfl rfl ?_
      refine Ex_goto (t := 20) dX11_firstMinuteTo_73 rfl ?_
      refine Ex_iload dX11_firstMinuteTo_20 rfl rfl ?_
      refine Ex_iconst dX11_firstMinuteTo_22 rfl ?_
      refine Ex_icmp_gt (t := 76) dX11_firstMinuteTo_23 rfl rfl (by omega) (fun c23 => ?_) (fun c23 => absurd c23 (by omega))
      refine Ex_iinc (L2 := [_, _, _, _, _]) dX11_firstMinuteTo_76 rfl rfl rfl ?_
      refine Ex_goto (t := 2) dX11_firstMinuteTo_79 rfl ?_
      refine Ex_iload_n dX11_firstMinuteTo_2 rfl rfl ?_
      refine Ex_aload_n dX11_firstMinuteTo_3 rfl rfl ?_
      refine Ex_getf dX11_firstMinuteTo_4 rfl (by first | exact z0 | exact hr) rfl rfl rfl ?_
      refine Ex_getf dX11_firstMinuteTo_7 rfl (by first | exact z0 | exact hr) rfl rfl rfl ?_
      refine Ex_icmp_ge (t := 82) dX11_firstMinuteTo_10 rfl rfl (by omega) (fun c10 => ?_) (fun c10 => absurd c10 (by omega))
      refine Ex_bipush dX11_firstMinuteTo_82 rfl (by decide) ?_
      refine Ex_iret dX11_firstMinuteTo_84 rfl rfl ?_
      obtain rfl : k = 0 := by omega
      exact Qs.same Z rfl
    · rw [if_pos q]
      by_cases q9 : ms l (rsM c (wy : Int) (n, m, K, F, T, S, C)) = most
      · rw [if_pos q9]
        refine Ex_iload dX11_firstMinuteTo_20 rfl rfl ?_
        refine Ex_iconst dX11_firstMinuteTo_22 rfl ?_
        refine Ex_icmp_gt (t := 76) dX11_firstMinuteTo_23 rfl rfl (by omega) (fun c23 => absurd c23 (by omega)) (fun c23 => ?_)
        refine Ex_aload_n dX11_firstMinuteTo_26 rfl rfl ?_
        refine Ex_getf dX11_firstMinuteTo_27 rfl (by first | exact z0 | exact hr) rfl rfl rfl ?_
        refine Ex_iload_n dX11_firstMinuteTo_30 rfl rfl ?_
        refine Ex_iload dX11_firstMinuteTo_31 rfl rfl ?_
        refine Ex_inv 2 dX11_firstMinuteTo_33 rfl rfl (Or.inl rfl) rfl rfl rfl rfl hr rfl rfl rfl (Ex_post (x7_canTake (c := (c : Int)) (way := (wy : Int)) R hg (by omega) (by omega)) ?_)
        rintro _ _ ⟨rfl, e0⟩
        obtain rfl := Eq.symm e0
        refine Ex_if_eq (t := 70) dX11_firstMinuteTo_36 rfl rfl (by split <;> omega) (fun c36 => absurd c36 (by rw [if_pos ⟨by omega, by simpa using q, by omega⟩] at c36; omega)) (fun c36 => ?_)
        refine Ex_aload_n dX11_firstMinuteTo_39 rfl rfl ?_
        refine Ex_inv 2 dX11_firstMinuteTo_40 rfl rfl (Or.inl rfl) rfl rfl rfl rfl z0 rfl rfl rfl (Ex_post (Ex_d (x11_fromNow (d := 0) Z R hg ky hB hy) (by omega)) ?_)
        rintro _ h1 ⟨rfl, R1, f1⟩
        refine Ex_iload_n dX11_firstMinuteTo_43 rfl rfl ?_
        refine Ex_iload dX11_firstMinuteTo_44 rfl rfl ?_
        refine Ex_inv 2 dX11_firstMinuteTo_46 rfl rfl (Or.inl rfl) rfl rfl rfl rfl R1.1 rfl rfl rfl (Ex_post (Ex_d (x7_take (d := 0) R1 hg ((ky.fr f1 (by omega)).ok (by omega)) (by omega) hc q (by omega)) (by omega)) ?_)
        rintro _ h2 ⟨rfl, R2, f2⟩
        have g2 := min_r (K := K) (way := (wy : Int)) hg (fun i hi => (ky i hi).1.2.2.2) hc q
        have ky2 := (ky.fr f1 (by omega)).fr f2 (by omega)
        have Z2 := (Z.t0 f1 R1.any).t0 f2 R2.any
        have hms : 0 ≤ ms l (rsM c (wy : Int) (n, m, K, F, T, S, C)) ∧ ms l (rsM c (wy : Int) (n, m, K, F, T, S, C)) ≤ 100 := ms_r l _ (hX.min (way := (wy : Int)) hc q)
        refine Ex_pop dX11_firstMinuteTo_49 rfl rfl ?_
        refine Ex_aload_n dX11_firstMinuteTo_50 rfl rfl ?_
        refine Ex_iconst dX11_firstMinuteTo_51 rfl ?_
        refine Ex_iload_n dX11_firstMinuteTo_52 rfl rfl ?_
        refine Ex_iconst dX11_firstMinuteTo_53 rfl ?_
        refine Ex_isub dX11_firstMinuteTo_54 rfl ?_
        rw [show ((l + 1 : Nat) : Int) - 1 = (l : Int) by omega]
        refine Ex_inv 2 dX11_firstMinuteTo_55 rfl rfl (Or.inl rfl) rfl rfl rfl rfl (((f2.2 _ (by omega)).trans (f1.2 _ (by omega))).trans z0) rfl rfl rfl (Ex_post (x11_most Z2 R2 g2 ky2 hB hy (by omega)) ?_)
        rintro _ h3 ⟨rfl, Z3, f3⟩
        have e3 : ms l (n, m + 1, K, F, minT n c (wy : Int) K F T S C, mnS c (wy : Int) K F T S, minC n c (wy : Int) K F T S C) = ms l (rsM c (wy : Int) (n, m, K, F, T, S, C)) := rfl
        rw [e3]
        have R3 := ((R.fr f1 (by omega)).fr f2 (by omega)).fr f3 (by omega)
        have ky3 := ky2.fr f3 (by omega)
        have hr3 := R3.1
        have z03 := (f3.2 x (by omega)).trans ((f2.2 x (by omega)).trans ((f1.2 x (by omega)).trans z0))
        have fT : FrS h h3 x := (f1.s0.trans f2.s0).trans (f3.wide (lo2 := x + 28) (by omega) (Nat.le_refl _)).s1
        refine Ex_iload_n dX11_firstMinuteTo_58 rfl rfl ?_
        refine Ex_icmp_ne (t := 70) dX11_firstMinuteTo_59 rfl rfl (by omega) (fun c59 => absurd c59 (by omega)) (fun c59 => ?_)
        refine Ex_bipush dX11_firstMinuteTo_62 rfl (by decide) ?_
        refine Ex_iload_n dX11_firstMinuteTo_64 rfl rfl ?_
        refine Ex_imul dX11_firstMinuteTo_65 rfl ?_
        refine Ex_iload dX11_firstMinuteTo_66 rfl rfl ?_
        refine Ex_iadd dX11_firstMinuteTo_68 rfl ?_
        refine Ex_iret dX11_firstMinuteTo_69 rfl rfl ?_
        exact Qs.fr Z3 fT rfl
      · rw [if_neg q9]
        refine Ex_iload dX11_firstMinuteTo_20 rfl rfl ?_
        refine Ex_iconst dX11_firstMinuteTo_22 rfl ?_
        refine Ex_icmp_gt (t := 76) dX11_firstMinuteTo_23 rfl rfl (by omega) (fun c23 => absurd c23 (by omega)) (fun c23 => ?_)
        refine Ex_aload_n dX11_firstMinuteTo_26 rfl rfl ?_
        refine Ex_getf dX11_firstMinuteTo_27 rfl (by first | exact z0 | exact hr) rfl rfl rfl ?_
        refine Ex_iload_n dX11_firstMinuteTo_30 rfl rfl ?_
        refine Ex_iload dX11_firstMinuteTo_31 rfl rfl ?_
        refine Ex_inv 2 dX11_firstMinuteTo_33 rfl rfl (Or.inl rfl) rfl rfl rfl rfl hr rfl rfl rfl (Ex_post (x7_canTake (c := (c : Int)) (way := (wy : Int)) R hg (by omega) (by omega)) ?_)
        rintro _ _ ⟨rfl, e0⟩
        obtain rfl := Eq.symm e0
        refine Ex_if_eq (t := 70) dX11_firstMinuteTo_36 rfl rfl (by split <;> omega) (fun c36 => absurd c36 (by rw [if_pos ⟨by omega, by simpa using q, by omega⟩] at c36; omega)) (fun c36 => ?_)
        refine Ex_aload_n dX11_firstMinuteTo_39 rfl rfl ?_
        refine Ex_inv 2 dX11_firstMinuteTo_40 rfl rfl (Or.inl rfl) rfl rfl rfl rfl z0 rfl rfl rfl (Ex_post (Ex_d (x11_fromNow (d := 0) Z R hg ky hB hy) (by omega)) ?_)
        rintro _ h1 ⟨rfl, R1, f1⟩
        refine Ex_iload_n dX11_firstMinuteTo_43 rfl rfl ?_
        refine Ex_iload dX11_firstMinuteTo_44 rfl rfl ?_
        refine Ex_inv 2 dX11_firstMinuteTo_46 rfl rfl (Or.inl rfl) rfl rfl rfl rfl R1.1 rfl rfl rfl (Ex_post (Ex_d (x7_take (d := 0) R1 hg ((ky.fr f1 (by omega)).ok (by omega)) (by omega) hc q (by omega)) (by omega)) ?_)
        rintro _ h2 ⟨rfl, R2, f2⟩
        have g2 := min_r (K := K) (way := (wy : Int)) hg (fun i hi => (ky i hi).1.2.2.2) hc q
        have ky2 := (ky.fr f1 (by omega)).fr f2 (by omega)
        have Z2 := (Z.t0 f1 R1.any).t0 f2 R2.any
        have hms : 0 ≤ ms l (rsM c (wy : Int) (n, m, K, F, T, S, C)) ∧ ms l (rsM c (wy : Int) (n, m, K, F, T, S, C)) ≤ 100 := ms_r l _ (hX.min (way := (wy : Int)) hc q)
        refine Ex_pop dX11_firstMinuteTo_49 rfl rfl ?_
        refine Ex_aload_n dX11_firstMinuteTo_50 rfl rfl ?_
        refine Ex_iconst dX11_firstMinuteTo_51 rfl ?_
        refine Ex_iload_n dX11_firstMinuteTo_52 rfl rfl ?_
        refine Ex_iconst dX11_firstMinuteTo_53 rfl ?_
        refine Ex_isub dX11_firstMinuteTo_54 rfl ?_
        rw [show ((l + 1 : Nat) : Int) - 1 = (l : Int) by omega]
        refine Ex_inv 2 dX11_firstMinuteTo_55 rfl rfl (Or.inl rfl) rfl rfl rfl rfl (((f2.2 _ (by omega)).trans (f1.2 _ (by omega))).trans z0) rfl rfl rfl (Ex_post (x11_most Z2 R2 g2 ky2 hB hy (by omega)) ?_)
        rintro _ h3 ⟨rfl, Z3, f3⟩
        have e3 : ms l (n, m + 1, K, F, minT n c (wy : Int) K F T S C, mnS c (wy : Int) K F T S, minC n c (wy : Int) K F T S C) = ms l (rsM c (wy : Int) (n, m, K, F, T, S, C)) := rfl
        rw [e3]
        have R3 := ((R.fr f1 (by omega)).fr f2 (by omega)).fr f3 (by omega)
        have ky3 := ky2.fr f3 (by omega)
        have hr3 := R3.1
        have z03 := (f3.2 x (by omega)).trans ((f2.2 x (by omega)).trans ((f1.2 x (by omega)).trans z0))
        have fT : FrS h h3 x := (f1.s0.trans f2.s0).trans (f3.wide (lo2 := x + 28) (by omega) (Nat.le_refl _)).s1
        refine Ex_iload_n dX11_firstMinuteTo_58 rfl rfl ?_
        refine Ex_icmp_ne (t := 70) dX11_firstMinuteTo_59 rfl rfl (by omega) (fun c59 => ?_) (fun c59 => absurd c59 (by omega))
        refine Ex_iinc (L2 := [_, _, _, _, _]) dX11_firstMinuteTo_70 rfl rfl rfl ?_
        refine Ex_goto (t := 20) dX11_firstMinuteTo_73 rfl ?_
        refine Ex_post (ih c (wy + 1) h3 hc (by omega) (by omega) Z3 R3 ky3) ?_
        intro r1 h1 z
        exact Qs.trans fT z
    · rw [if_pos q]
      by_cases q9 : ms l (rsM c (wy : Int) (n, m, K, F, T, S, C)) = most
      · rw [if_pos q9]
        refine Ex_iload dX11_firstMinuteTo_20 rfl rfl ?_
        refine Ex_iconst dX11_firstMinuteTo_22 rfl ?_
        refine Ex_icmp_gt (t := 76) dX11_firstMinuteTo_23 rfl rfl (by omega) (fun c23 => absurd c23 (by omega)) (fun c23 => ?_)
        refine Ex_aload_n dX11_firstMinuteTo_26 rfl rfl ?_
        refine Ex_getf dX11_firstMinuteTo_27 rfl (by first | exact z0 | exact hr) rfl rfl rfl ?_
        refine Ex_iload_n dX11_firstMinuteTo_30 rfl rfl ?_
        refine Ex_iload dX11_firstMinuteTo_31 rfl rfl ?_
        refine Ex_inv 2 dX11_firstMinuteTo_33 rfl rfl (Or.inl rfl) rfl rfl rfl rfl hr rfl rfl rfl (Ex_post (x7_canTake (c := (c : Int)) (way := (wy : Int)) R hg (by omega) (by omega)) ?_)
        rintro _ _ ⟨rfl, e0⟩
        obtain rfl := Eq.symm e0
        refine Ex_if_eq (t := 70) dX11_firstMinuteTo_36 rfl rfl (by split <;> omega) (fun c36 => absurd c36 (by rw [if_pos ⟨by omega, by simpa using q, by omega⟩] at c36; omega)) (fun c36 => ?_)
        refine Ex_aload_n dX11_firstMinuteTo_39 rfl rfl ?_
        refine Ex_inv 2 dX11_firstMinuteTo_40 rfl rfl (Or.inl rfl) rfl rfl rfl rfl z0 rfl rfl rfl (Ex_post (Ex_d (x11_fromNow (d := 0) Z R hg ky hB hy) (by omega)) ?_)
        rintro _ h1 ⟨rfl, R1, f1⟩
        refine Ex_iload_n dX11_firstMinuteTo_43 rfl rfl ?_
        refine Ex_iload dX11_firstMinuteTo_44 rfl rfl ?_
        refine Ex_inv 2 dX11_firstMinuteTo_46 rfl rfl (Or.inl rfl) rfl rfl rfl rfl R1.1 rfl rfl rfl (Ex_post (Ex_d (x7_take (d := 0) R1 hg ((ky.fr f1 (by omega)).ok (by omega)) (by omega) hc q (by omega)) (by omega)) ?_)
        rintro _ h2 ⟨rfl, R2, f2⟩
        have g2 := min_r (K := K) (way := (wy : Int)) hg (fun i hi => (ky i hi).1.2.2.2) hc q
        have ky2 := (ky.fr f1 (by omega)).fr f2 (by omega)
        have Z2 := (Z.t0 f1 R1.any).t0 f2 R2.any
        have hms : 0 ≤ ms l (rsM c (wy : Int) (n, m, K, F, T, S, C)) ∧ ms l (rsM c (wy : Int) (n, m, K, F, T, S, C)) ≤ 100 := ms_r l _ (hX.min (way := (wy : Int)) hc q)
        refine Ex_pop dX11_firstMinuteTo_49 rfl rfl ?_
        refine Ex_aload_n dX11_firstMinuteTo_50 rfl rfl ?_
        refine Ex_iconst dX11_firstMinuteTo_51 rfl ?_
        refine Ex_iload_n dX11_firstMinuteTo_52 rfl rfl ?_
        refine Ex_iconst dX11_firstMinuteTo_53 rfl ?_
        refine Ex_isub dX11_firstMinuteTo_54 rfl ?_
        rw [show ((l + 1 : Nat) : Int) - 1 = (l : Int) by omega]
        refine Ex_inv 2 dX11_firstMinuteTo_55 rfl rfl (Or.inl rfl) rfl rfl rfl rfl (((f2.2 _ (by omega)).trans (f1.2 _ (by omega))).trans z0) rfl rfl rfl (Ex_post (x11_most Z2 R2 g2 ky2 hB hy (by omega)) ?_)
        rintro _ h3 ⟨rfl, Z3, f3⟩
        have e3 : ms l (n, m + 1, K, F, minT n c (wy : Int) K F T S C, mnS c (wy : Int) K F T S, minC n c (wy : Int) K F T S C) = ms l (rsM c (wy : Int) (n, m, K, F, T, S, C)) := rfl
        rw [e3]
        have R3 := ((R.fr f1 (by omega)).fr f2 (by omega)).fr f3 (by omega)
        have ky3 := ky2.fr f3 (by omega)
        have hr3 := R3.1
        have z03 := (f3.2 x (by omega)).trans ((f2.2 x (by omega)).trans ((f1.2 x (by omega)).trans z0))
        have fT : FrS h h3 x := (f1.s0.trans f2.s0).trans (f3.wide (lo2 := x + 28) (by omega) (Nat.le_refl _)).s1
        refine Ex_iload_n dX11_firstMinuteTo_58 rfl rfl ?_
        refine Ex_icmp_ne (t := 70) dX11_firstMinuteTo_59 rfl rfl (by omega) (fun c59 => absurd c59 (by omega)) (fun c59 => ?_)
        refine Ex_bipush dX11_firstMinuteTo_62 rfl (by decide) ?_
        refine Ex_iload_n dX11_firstMinuteTo_64 rfl rfl ?_
        refine Ex_imul dX11_firstMinuteTo_65 rfl ?_
        refine Ex_iload dX11_firstMinuteTo_66 rfl rfl ?_
        refine Ex_iadd dX11_firstMinuteTo_68 rfl ?_
        refine Ex_iret dX11_firstMinuteTo_69 rfl rfl ?_
        exact Qs.fr Z3 fT rfl
      · rw [if_neg q9]
        refine Ex_iload dX11_firstMinuteTo_20 rfl rfl ?_
        refine Ex_iconst dX11_firstMinuteTo_22 rfl ?_
        refine Ex_icmp_gt (t := 76) dX11_firstMinuteTo_23 rfl rfl (by omega) (fun c23 => absurd c23 (by omega)) (fun c23 => ?_)
        refine Ex_aload_n dX11_firstMinuteTo_26 rfl rfl ?_
        refine Ex_getf dX11_firstMinuteTo_27 rfl (by first | exact z0 | exact hr) rfl rfl rfl ?_
        refine Ex_iload_n dX11_firstMinuteTo_30 rfl rfl ?_
        refine Ex_iload dX11_firstMinuteTo_31 rfl rfl ?_
        refine Ex_inv 2 dX11_firstMinuteTo_33 rfl rfl (Or.inl rfl) rfl rfl rfl rfl hr rfl rfl rfl (Ex_post (x7_canTake (c := (c : Int)) (way := (wy : Int)) R hg (by omega) (by omega)) ?_)
        rintro _ _ ⟨rfl, e0⟩
        obtain rfl := Eq.symm e0
        refine Ex_if_eq (t := 70) dX11_firstMinuteTo_36 rfl rfl (by split <;> omega) (fun c36 => absurd c36 (by rw [if_pos ⟨by omega, by simpa using q, by omega⟩] at c36; omega)) (fun c36 => ?_)
        refine Ex_aload_n dX11_firstMinuteTo_39 rfl rfl ?_
        refine Ex_inv 2 dX11_firstMinuteTo_40 rfl rfl (Or.inl rfl) rfl rfl rfl rfl z0 rfl rfl rfl (Ex_post (Ex_d (x11_fromNow (d := 0) Z R hg ky hB hy) (by omega)) ?_)
        rintro _ h1 ⟨rfl, R1, f1⟩
        refine Ex_iload_n dX11_firstMinuteTo_43 rfl rfl ?_
        refine Ex_iload dX11_firstMinuteTo_44 rfl rfl ?_
        refine Ex_inv 2 dX11_firstMinuteTo_46 rfl rfl (Or.inl rfl) rfl rfl rfl rfl R1.1 rfl rfl rfl (Ex_post (Ex_d (x7_take (d := 0) R1 hg ((ky.fr f1 (by omega)).ok (by omega)) (by omega) hc q (by omega)) (by omega)) ?_)
        rintro _ h2 ⟨rfl, R2, f2⟩
        have g2 := min_r (K := K) (way := (wy : Int)) hg (fun i hi => (ky i hi).1.2.2.2) hc q
        have ky2 := (ky.fr f1 (by omega)).fr f2 (by omega)
        have Z2 := (Z.t0 f1 R1.any).t0 f2 R2.any
        have hms : 0 ≤ ms l (rsM c (wy : Int) (n, m, K, F, T, S, C)) ∧ ms l (rsM c (wy : Int) (n, m, K, F, T, S, C)) ≤ 100 := ms_r l _ (hX.min (way := (wy : Int)) hc q)
        refine Ex_pop dX11_firstMinuteTo_49 rfl rfl ?_
        refine Ex_aload_n dX11_firstMinuteTo_50 rfl rfl ?_
        refine Ex_iconst dX11_firstMinuteTo_51 rfl ?_
        refine Ex_iload_n dX11_firstMinuteTo_52 rfl rfl ?_
        refine Ex_iconst dX11_firstMinuteTo_53 rfl ?_
        refine Ex_isub dX11_firstMinuteTo_54 rfl ?_
        rw [show ((l + 1 : Nat) : Int) - 1 = (l : Int) by omega]
        refine Ex_inv 2 dX11_firstMinuteTo_55 rfl rfl (Or.inl rfl) rfl rfl rfl rfl (((f2.2 _ (by omega)).trans (f1.2 _ (by omega))).trans z0) rfl rfl rfl (Ex_post (x11_most Z2 R2 g2 ky2 hB hy (by omega)) ?_)
        rintro _ h3 ⟨rfl, Z3, f3⟩
        have e3 : ms l (n, m + 1, K, F, minT n c (wy : Int) K F T S C, mnS c (wy : Int) K F T S, minC n c (wy : Int) K F T S C) = ms l (rsM c (wy : Int) (n, m, K, F, T, S, C)) := rfl
        rw [e3]
        have R3 := ((R.fr f1 (by omega)).fr f2 (by omega)).fr f3 (by omega)
        have ky3 := ky2.fr f3 (by omega)
        have hr3 := R3.1
        have z03 := (f3.2 x (by omega)).trans ((f2.2 x (by omega)).trans ((f1.2 x (by omega)).trans z0))
        have fT : FrS h h3 x := (f1.s0.trans f2.s0).trans (f3.wide (lo2 := x + 28) (by omega) (Nat.le_refl _)).s1
        refine Ex_iload_n dX11_firstMinuteTo_58 rfl rfl ?_
        refine Ex_icmp_ne (t := 70) dX11_firstMinuteTo_59 rfl rfl (by omega) (fun c59 => ?_) (fun c59 => absurd c59 (by omega))
        refine Ex_iinc (L2 := [_, _, _, _, _]) dX11_firstMinuteTo_70 rfl rfl rfl ?_
        refine Ex_goto (t := 20) dX11_firstMinuteTo_73 rfl ?_
        refine Ex_iload dX11_firstMinuteTo_20 rfl rfl ?_
        refine Ex_iconst dX11_firstMinuteTo_22 rfl ?_
        refine Ex_icmp_gt (t := 76) dX11_firstMinuteTo_23 rfl rfl (by omega) (fun c23 => ?_) (fun c23 => absurd c23 (by omega))
        refine Ex_iinc (L2 := [_, _, _, _, _]) dX11_firstMinuteTo_76 rfl rfl rfl ?_
        refine Ex_goto (t := 2) dX11_firstMinuteTo_79 rfl ?_
        refine Ex_iload_n dX11_firstMinuteTo_2 rfl rfl ?_
        refine Ex_aload_n dX11_firstMinuteTo_3 rfl rfl ?_
        refine Ex_getf dX11_firstMinuteTo_4 rfl (by first | exact z03 | exact hr3) rfl rfl rfl ?_
        refine Ex_getf dX11_firstMinuteTo_7 rfl (by first | exact z03 | exact hr3) rfl rfl rfl ?_
        refine Ex_icmp_ge (t := 82) dX11_firstMinuteTo_10 rfl rfl (by omega) (fun c10 => absurd c10 (by omega)) (fun c10 => ?_)
        refine Ex_iload_n dX11_firstMinuteTo_13 rfl rfl ?_
        refine Ex_if_le (t := 82) dX11_firstMinuteTo_14 rfl rfl (by omega) (fun c14 => absurd c14 (by omega)) (fun c14 => ?_)
        refine Ex_iconst dX11_firstMinuteTo_17 rfl ?_
        refine Ex_istore (L2 := [_, _, _, _, _]) dX11_firstMinuteTo_18 rfl rfl rfl ?_
        rw [show 3 * c + wy + 1 = 3 * (c + 1) + 0 by omega]
        refine Ex_post (ih (c + 1) 0 h3 p2 (by omega) (by omega) Z3 R3 ky3) ?_
        intro r1 h1 z
        exact Qs.trans fT z
    · rw [if_pos q]
      by_cases q9 : ms l (rsM c (wy : Int) (n, m, K, F, T, S, C)) = most
      · rw [if_pos q9]
        refine Ex_iload dX11_firstMinuteTo_20 rfl rfl ?_
        refine Ex_iconst dX11_firstMinuteTo_22 rfl ?_
        refine Ex_icmp_gt (t := 76) dX11_firstMinuteTo_23 rfl rfl (by omega) (fun c23 => absurd c23 (by omega)) (fun c23 => ?_)
        refine Ex_aload_n dX11_firstMinuteTo_26 rfl rfl ?_
        refine Ex_getf dX11_firstMinuteTo_27 rfl (by first | exact z0 | exact hr) rfl rfl rfl ?_
        refine Ex_iload_n dX11_firstMinuteTo_30 rfl rfl ?_
        refine Ex_iload dX11_firstMinuteTo_31 rfl rfl ?_
        refine Ex_inv 2 dX11_firstMinuteTo_33 rfl rfl (Or.inl rfl) rfl rfl rfl rfl hr rfl rfl rfl (Ex_post (x7_canTake (c := (c : Int)) (way := (wy : Int)) R hg (by omega) (by omega)) ?_)
        rintro _ _ ⟨rfl, e0⟩
        obtain rfl := Eq.symm e0
        refine Ex_if_eq (t := 70) dX11_firstMinuteTo_36 rfl rfl (by split <;> omega) (fun c36 => absurd c36 (by rw [if_pos ⟨by omega, by simpa using q, by omega⟩] at c36; omega)) (fun c36 => ?_)
        refine Ex_aload_n dX11_firstMinuteTo_39 rfl rfl ?_
        refine Ex_inv 2 dX11_firstMinuteTo_40 rfl rfl (Or.inl rfl) rfl rfl rfl rfl z0 rfl rfl rfl (Ex_post (Ex_d (x11_fromNow (d := 0) Z R hg ky hB hy) (by omega)) ?_)
        rintro _ h1 ⟨rfl, R1, f1⟩
        refine Ex_iload_n dX11_firstMinuteTo_43 rfl rfl ?_
        refine Ex_iload dX11_firstMinuteTo_44 rfl rfl ?_
        refine Ex_inv 2 dX11_firstMinuteTo_46 rfl rfl (Or.inl rfl) rfl rfl rfl rfl R1.1 rfl rfl rfl (Ex_post (Ex_d (x7_take (d := 0) R1 hg ((ky.fr f1 (by omega)).ok (by omega)) (by omega) hc q (by omega)) (by omega)) ?_)
        rintro _ h2 ⟨rfl, R2, f2⟩
        have g2 := min_r (K := K) (way := (wy : Int)) hg (fun i hi => (ky i hi).1.2.2.2) hc q
        have ky2 := (ky.fr f1 (by omega)).fr f2 (by omega)
        have Z2 := (Z.t0 f1 R1.any).t0 f2 R2.any
        have hms : 0 ≤ ms l (rsM c (wy : Int) (n, m, K, F, T, S, C)) ∧ ms l (rsM c (wy : Int) (n, m, K, F, T, S, C)) ≤ 100 := ms_r l _ (hX.min (way := (wy : Int)) hc q)
        refine Ex_pop dX11_firstMinuteTo_49 rfl rfl ?_
        refine Ex_aload_n dX11_firstMinuteTo_50 rfl rfl ?_
        refine Ex_iconst dX11_firstMinuteTo_51 rfl ?_
        refine Ex_iload_n dX11_firstMinuteTo_52 rfl rfl ?_
        refine Ex_iconst dX11_firstMinuteTo_53 rfl ?_
        refine Ex_isub dX11_firstMinuteTo_54 rfl ?_
        rw [show ((l + 1 : Nat) : Int) - 1 = (l : Int) by omega]
        refine Ex_inv 2 dX11_firstMinuteTo_55 rfl rfl (Or.inl rfl) rfl rfl rfl rfl (((f2.2 _ (by omega)).trans (f1.2 _ (by omega))).trans z0) rfl rfl rfl (Ex_post (x11_most Z2 R2 g2 ky2 hB hy (by omega)) ?_)
        rintro _ h3 ⟨rfl, Z3, f3⟩
        have e3 : ms l (n, m + 1, K, F, minT n c (wy : Int) K F T S C, mnS c (wy : Int) K F T S, minC n c (wy : Int) K F T S C) = ms l (rsM c (wy : Int) (n, m, K, F, T, S, C)) := rfl
        rw [e3]
        have R3 := ((R.fr f1 (by omega)).fr f2 (by omega)).fr f3 (by omega)
        have ky3 := ky2.fr f3 (by omega)
        have hr3 := R3.1
        have z03 := (f3.2 x (by omega)).trans ((f2.2 x (by omega)).trans ((f1.2 x (by omega)).trans z0))
        have fT : FrS h h3 x := (f1.s0.trans f2.s0).trans (f3.wide (lo2 := x + 28) (by omega) (Nat.le_refl _)).s1
        refine Ex_iload_n dX11_firstMinuteTo_58 rfl rfl ?_
        refine Ex_icmp_ne (t := 70) dX11_firstMinuteTo_59 rfl rfl (by omega) (fun c59 => absurd c59 (by omega)) (fun c59 => ?_)
        refine Ex_bipush dX11_firstMinuteTo_62 rfl (by decide) ?_
        refine Ex_iload_n dX11_firstMinuteTo_64 rfl rfl ?_
        refine Ex_imul dX11_firstMinuteTo_65 rfl ?_
        refine Ex_iload dX11_firstMinuteTo_66 rfl rfl ?_
        refine Ex_iadd dX11_firstMinuteTo_68 rfl ?_
        refine Ex_iret dX11_firstMinuteTo_69 rfl rfl ?_
        exact Qs.fr Z3 fT rfl
      · rw [if_neg q9]
        refine Ex_iload dX11_firstMinuteTo_20 rfl rfl ?_
        refine Ex_iconst dX11_firstMinuteTo_22 rfl ?_
        refine Ex_icmp_gt (t := 76) dX11_firstMinuteTo_23 rfl rfl (by omega) (fun c23 => absurd c23 (by omega)) (fun c23 => ?_)
        refine Ex_aload_n dX11_firstMinuteTo_26 rfl rfl ?_
        refine Ex_getf dX11_firstMinuteTo_27 rfl (by first | exact z0 | exact hr) rfl rfl rfl ?_
        refine Ex_iload_n dX11_firstMinuteTo_30 rfl rfl ?_
        refine Ex_iload dX11_firstMinuteTo_31 rfl rfl ?_
        refine Ex_inv 2 dX11_firstMinuteTo_33 rfl rfl (Or.inl rfl) rfl rfl rfl rfl hr rfl rfl rfl (Ex_post (x7_canTake (c := (c : Int)) (way := (wy : Int)) R hg (by omega) (by omega)) ?_)
        rintro _ _ ⟨rfl, e0⟩
        obtain rfl := Eq.symm e0
        refine Ex_if_eq (t := 70) dX11_firstMinuteTo_36 rfl rfl (by split <;> omega) (fun c36 => absurd c36 (by rw [if_pos ⟨by omega, by simpa using q, by omega⟩] at c36; omega)) (fun c36 => ?_)
        refine Ex_aload_n dX11_firstMinuteTo_39 rfl rfl ?_
        refine Ex_inv 2 dX11_firstMinuteTo_40 rfl rfl (Or.inl rfl) rfl rfl rfl rfl z0 rfl rfl rfl (Ex_post (Ex_d (x11_fromNow (d := 0) Z R hg ky hB hy) (by omega)) ?_)
        rintro _ h1 ⟨rfl, R1, f1⟩
        refine Ex_iload_n dX11_firstMinuteTo_43 rfl rfl ?_
        refine Ex_iload dX11_firstMinuteTo_44 rfl rfl ?_
        refine Ex_inv 2 dX11_firstMinuteTo_46 rfl rfl (Or.inl rfl) rfl rfl rfl rfl R1.1 rfl rfl rfl (Ex_post (Ex_d (x7_take (d := 0) R1 hg ((ky.fr f1 (by omega)).ok (by omega)) (by omega) hc q (by omega)) (by omega)) ?_)
        rintro _ h2 ⟨rfl, R2, f2⟩
        have g2 := min_r (K := K) (way := (wy : Int)) hg (fun i hi => (ky i hi).1.2.2.2) hc q
        have ky2 := (ky.fr f1 (by omega)).fr f2 (by omega)
        have Z2 := (Z.t0 f1 R1.any).t0 f2 R2.any
        have hms : 0 ≤ ms l (rsM c (wy : Int) (n, m, K, F, T, S, C)) ∧ ms l (rsM c (wy : Int) (n, m, K, F, T, S, C)) ≤ 100 := ms_r l _ (hX.min (way := (wy : Int)) hc q)
        refine Ex_pop dX11_firstMinuteTo_49 rfl rfl ?_
        refine Ex_aload_n dX11_firstMinuteTo_50 rfl rfl ?_
        refine Ex_iconst dX11_firstMinuteTo_51 rfl ?_
        refine Ex_iload_n dX11_firstMinuteTo_52 rfl rfl ?_
        refine Ex_iconst dX11_firstMinuteTo_53 rfl ?_
        refine Ex_isub dX11_firstMinuteTo_54 rfl ?_
        rw [show ((l + 1 : Nat) : Int) - 1 = (l : Int) by omega]
        refine Ex_inv 2 dX11_firstMinuteTo_55 rfl rfl (Or.inl rfl) rfl rfl rfl rfl (((f2.2 _ (by omega)).trans (f1.2 _ (by omega))).trans z0) rfl rfl rfl (Ex_post (x11_most Z2 R2 g2 ky2 hB hy (by omega)) ?_)
        rintro _ h3 ⟨rfl, Z3, f3⟩
        have e3 : ms l (n, m + 1, K, F, minT n c (wy : Int) K F T S C, mnS c (wy : Int) K F T S, minC n c (wy : Int) K F T S C) = ms l (rsM c (wy : Int) (n, m, K, F, T, S, C)) := rfl
        rw [e3]
        have R3 := ((R.fr f1 (by omega)).fr f2 (by omega)).fr f3 (by omega)
        have ky3 := ky2.fr f3 (by omega)
        have hr3 := R3.1
        have z03 := (f3.2 x (by omega)).trans ((f2.2 x (by omega)).trans ((f1.2 x (by omega)).trans z0))
        have fT : FrS h h3 x := (f1.s0.trans f2.s0).trans (f3.wide (lo2 := x + 28) (by omega) (Nat.le_refl _)).s1
        refine Ex_iload_n dX11_firstMinuteTo_58 rfl rfl ?_
        refine Ex_icmp_ne (t := 70) dX11_firstMinuteTo_59 rfl rfl (by omega) (fun c59 => ?_) (fun c59 => absurd c59 (by omega))
        refine Ex_iinc (L2 := [_, _, _, _, _]) dX11_firstMinuteTo_70 rfl rfl rfl ?_
        refine Ex_goto (t := 20) dX11_firstMinuteTo_73 rfl ?_
        refine Ex_iload dX11_firstMinuteTo_20 rfl rfl ?_
        refine Ex_iconst dX11_firstMinuteTo_22 rfl ?_
        refine Ex_icmp_gt (t := 76) dX11_firstMinuteTo_23 rfl rfl (by omega) (fun c23 => ?_) (fun c23 => absurd c23 (by omega))
        refine Ex_iinc (L2 := [_, _, _, _, _]) dX11_firstMinuteTo_76 rfl rfl rfl ?_
        refine Ex_goto (t := 2) dX11_firstMinuteTo_79 rfl ?_
        refine Ex_iload_n dX11_firstMinuteTo_2 rfl rfl ?_
        refine Ex_aload_n dX11_firstMinuteTo_3 rfl rfl ?_
        refine Ex_getf dX11_firstMinuteTo_4 rfl (by first | exact z03 | exact hr3) rfl rfl rfl ?_
        refine Ex_getf dX11_firstMinuteTo_7 rfl (by first | exact z03 | exact hr3) rfl rfl rfl ?_
        refine Ex_icmp_ge (t := 82) dX11_firstMinuteTo_10 rfl rfl (by omega) (fun c10 => ?_) (fun c10 => absurd c10 (by omega))
        refine Ex_bipush dX11_firstMinuteTo_82 rfl (by decide) ?_
        refine Ex_iret dX11_firstMinuteTo_84 rfl rfl ?_
        obtain rfl : k = 0 := by omega
        exact Qs.fr Z3 fT rfl
theorem x11_mostSteps {E : am_E} {d : Nat} {h : Hp} {x y n : Nat} {hi m tu : Int} {kr : Nat → Nat} {K F T S C : Nat → Int} {l w : Int}  (Z : Scr h x hi) (R : RailAt h (x + 10) n m tu kr T S C) (hg : Rng n T S C) (ky : KY h y n kr K F) (hB : E.2 ≤ x) (hy : x + 57 ≤ y) (hl : (-2147483648 ≤ l ∧ l ≤ 2147483647)) (hw : (-2147483648 ≤ w ∧ w ≤ 2147483647))  : Ex E (d + 9) mX11_mostSteps 0 [.ref x, .int (i32 l), .int (i32 w), .retAddr 0] [] h (fun r1 h1 => Qs h h1 x hi (an_mostSteps (n, m, K, F, T, S, C) l w) r1) := by
  obtain ⟨⟨bs, z0⟩, z1, ⟨f2, z2⟩, ⟨f3, z3⟩, ⟨f4, z4⟩, ⟨f5, z5⟩, zr0, zr1, zr2, ⟨k5, t5, s5, c5, z55⟩, ⟨k6, t6, s6, c6, z56⟩⟩ := id Z
  obtain ⟨hr, hA, hP, hG, hn6⟩ := id R
  have kk := ky.ok (r := x + 10) (by omega)
  by_cases q : (0 ≤ l ∧ l ≤ 3) ∧ (0 ≤ w ∧ w ≤ 1)
  · have hX : RX (n, m, K, F, T, S, C) := ⟨hg, fun i hi => (ky i hi).1.2.2.2, hn6⟩
    obtain ⟨l, rfl⟩ := Int.eq_ofNat_of_zero_le q.1.1
    have hms := ms_r l _ hX
    by_cases hw0 : w = 0
    · have ea : an_mostSteps (n, m, K, F, T, S, C) (l : Int) w = ms l (n, m, K, F, T, S, C) := by unfold an_mostSteps; rw [if_pos q]; exact if_pos hw0
      rw [ea]
      refine Ex_iload_n dX11_mostSteps_0 rfl rfl ?_
      refine Ex_iconst dX11_mostSteps_1 rfl ?_
      refine Ex_iconst dX11_mostSteps_2 rfl ?_
      refine Ex_stat 0 dX11_mostSteps_3 rfl rfl (Or.inl rfl) rfl rfl rfl rfl rfl rfl (Ex_post (x11_within (by omega)) ?_)
      rintro _ _ ⟨rfl, e0⟩
      obtain rfl := Eq.symm e0
      refine Ex_if_eq (t := 18) dX11_mostSteps_6 rfl rfl (by omega) (fun c6 => absurd c6 (by omega)) (fun c6 => ?_)
      refine Ex_iload_n dX11_mostSteps_9 rfl rfl ?_
      refine Ex_iconst dX11_mostSteps_10 rfl ?_
      refine Ex_iconst dX11_mostSteps_11 rfl ?_
      refine Ex_stat 0 dX11_mostSteps_12 rfl rfl (Or.inl rfl) rfl rfl rfl rfl rfl rfl (Ex_post (x11_within (by omega)) ?_)
      rintro _ _ ⟨rfl, e0⟩
      obtain rfl := Eq.symm e0
      refine Ex_if_ne (t := 20) dX11_mostSteps_15 rfl rfl (by omega) (fun c15 => ?_) (fun c15 => absurd c15 (by omega))
      refine Ex_aload_n dX11_mostSteps_20 rfl rfl ?_
      refine Ex_inv 2 dX11_mostSteps_21 rfl rfl (Or.inl rfl) rfl rfl rfl rfl z0 rfl rfl rfl (Ex_post (Ex_d (x11_fromNow (d := 0) Z R hg ky hB hy) (by omega)) ?_)
      rintro _ h9 ⟨rfl, R9, f9⟩
      have Z9 := Z.t0 f9 R9.any
      have R9n := R.fr f9 (by omega)
      have ky9 := ky.fr f9 (by omega)
      refine Ex_pop dX11_mostSteps_24 rfl rfl ?_
      refine Ex_aload_n dX11_mostSteps_25 rfl rfl ?_
      refine Ex_iconst dX11_mostSteps_26 rfl ?_
      refine Ex_iload_n dX11_mostSteps_27 rfl rfl ?_
      refine Ex_inv 2 dX11_mostSteps_28 rfl rfl (Or.inl rfl) rfl rfl rfl rfl ((f9.2 _ (by omega)).trans z0) rfl rfl rfl (Ex_post (Ex_d (x11_most (d := 0) Z9 R9 hg ky9 hB hy (by omega)) (by omega)) ?_)
      rintro _ h8 ⟨rfl, Z8, f8⟩
      have fT : FrS h h8 x := f9.s0.trans (f8.wide (lo2 := x + 28) (by omega) (Nat.le_refl _)).s1
      have R8 := R9n.fr f8 (by omega)
      have ky8 := ky9.fr f8 (by omega)
      obtain ⟨⟨bs8, z08⟩, -⟩ := id Z8
      have hr8 := R8.1
      refine Ex_istore_n (L2 := [_, _, _, _]) dX11_mostSteps_31 rfl rfl rfl ?_
      refine Ex_iload_n dX11_mostSteps_32 rfl rfl ?_
      refine Ex_if_ne (t := 40) dX11_mostSteps_33 rfl rfl (by omega) (fun c33 => absurd c33 (by omega)) (fun c33 => ?_)
      refine Ex_iload_n dX11_mostSteps_36 rfl rfl ?_
      refine Ex_goto (t := 46) dX11_mostSteps_37 rfl ?_
      refine Ex_iret dX11_mostSteps_46 rfl rfl ?_
      exact Qs.fr Z8 fT rfl
    · by_cases hl0 : l = 0
      · have ea : an_mostSteps (n, m, K, F, T, S, C) (l : Int) w = -4 := by unfold an_mostSteps; rw [if_pos q, if_neg hw0]; exact if_pos (by omega)
        rw [ea]
        refine Ex_iload_n dX11_mostSteps_0 rfl rfl ?_
        refine Ex_iconst dX11_mostSteps_1 rfl ?_
        refine Ex_iconst dX11_mostSteps_2 rfl ?_
        refine Ex_stat 0 dX11_mostSteps_3 rfl rfl (Or.inl rfl) rfl rfl rfl rfl rfl rfl (Ex_post (x11_within (by omega)) ?_)
        rintro _ _ ⟨rfl, e0⟩
        obtain rfl := Eq.symm e0
        refine Ex_if_eq (t := 18) dX11_mostSteps_6 rfl rfl (by omega) (fun c6 => absurd c6 (by omega)) (fun c6 => ?_)
        refine Ex_iload_n dX11_mostSteps_9 rfl rfl ?_
        refine Ex_iconst dX11_mostSteps_10 rfl ?_
        refine Ex_iconst dX11_mostSteps_11 rfl ?_
        refine Ex_stat 0 dX11_mostSteps_12 rfl rfl (Or.inl rfl) rfl rfl rfl rfl rfl rfl (Ex_post (x11_within (by omega)) ?_)
        rintro _ _ ⟨rfl, e0⟩
        obtain rfl := Eq.symm e0
        refine Ex_if_ne (t := 20) dX11_mostSteps_15 rfl rfl (by omega) (fun c15 => ?_) (fun c15 => absurd c15 (by omega))
        refine Ex_aload_n dX11_mostSteps_20 rfl rfl ?_
        refine Ex_inv 2 dX11_mostSteps_21 rfl rfl (Or.inl rfl) rfl rfl rfl rfl z0 rfl rfl rfl (Ex_post (Ex_d (x11_fromNow (d := 0) Z R hg ky hB hy) (by omega)) ?_)
        rintro _ h9 ⟨rfl, R9, f9⟩
        have Z9 := Z.t0 f9 R9.any
        have R9n := R.fr f9 (by omega)
        have ky9 := ky.fr f9 (by omega)
        refine Ex_pop dX11_mostSteps_24 rfl rfl ?_
        refine Ex_aload_n dX11_mostSteps_25 rfl rfl ?_
        refine Ex_iconst dX11_mostSteps_26 rfl ?_
        refine Ex_iload_n dX11_mostSteps_27 rfl rfl ?_
        refine Ex_inv 2 dX11_mostSteps_28 rfl rfl (Or.inl rfl) rfl rfl rfl rfl ((f9.2 _ (by omega)).trans z0) rfl rfl rfl (Ex_post (Ex_d (x11_most (d := 0) Z9 R9 hg ky9 hB hy (by omega)) (by omega)) ?_)
        rintro _ h8 ⟨rfl, Z8, f8⟩
        have fT : FrS h h8 x := f9.s0.trans (f8.wide (lo2 := x + 28) (by omega) (Nat.le_refl _)).s1
        have R8 := R9n.fr f8 (by omega)
        have ky8 := ky9.fr f8 (by omega)
        obtain ⟨⟨bs8, z08⟩, -⟩ := id Z8
        have hr8 := R8.1
        refine Ex_istore_n (L2 := [_, _, _, _]) dX11_mostSteps_31 rfl rfl rfl ?_
        refine Ex_iload_n dX11_mostSteps_32 rfl rfl ?_
        refine Ex_if_ne (t := 40) dX11_mostSteps_33 rfl rfl (by omega) (fun c33 => ?_) (fun c33 => absurd c33 (by omega))
        refine Ex_aload_n dX11_mostSteps_40 rfl rfl ?_
        refine Ex_iload_n dX11_mostSteps_41 rfl rfl ?_
        refine Ex_iload_n dX11_mostSteps_42 rfl rfl ?_
        refine Ex_inv 2 dX11_mostSteps_43 rfl rfl (Or.inl rfl) rfl rfl rfl rfl z08 rfl rfl rfl (Ex_post (P := fun r1 h1 => Qs h8 h1 x hi (-4) r1) ?_ ?_)
        rotate_left
        · rintro r1 h1 ⟨rfl, y2, y3⟩
          refine Ex_iret dX11_mostSteps_46 rfl rfl ?_
          exact ⟨rfl, y2, fT.trans y3⟩
        by_cases hn0 : 0 < n
        · refine Ex_iconst dX11_firstMinuteTo_0 rfl ?_
          refine Ex_istore_n (L2 := [_, _, _, _, _]) dX11_firstMinuteTo_1 rfl rfl rfl ?_
          refine Ex_iload_n dX11_firstMinuteTo_2 rfl rfl ?_
          refine Ex_aload_n dX11_firstMinuteTo_3 rfl rfl ?_
          refine Ex_getf dX11_firstMinuteTo_4 rfl (by first | exact z08 | exact hr8) rfl rfl rfl ?_
          refine Ex_getf dX11_firstMinuteTo_7 rfl (by first | exact z08 | exact hr8) rfl rfl rfl ?_
          refine Ex_icmp_ge (t := 82) dX11_firstMinuteTo_10 rfl rfl (by omega) (fun c10 => absurd c10 (by omega)) (fun c10 => ?_)
          refine Ex_iload_n dX11_firstMinuteTo_13 rfl rfl ?_
          refine Ex_if_le (t := 82) dX11_firstMinuteTo_14 rfl rfl (by omega) (fun c14 => ?_) (fun c14 => absurd c14 (by omega))
          refine Ex_bipush dX11_firstMinuteTo_82 rfl (by decide) ?_
          refine Ex_iret dX11_firstMinuteTo_84 rfl rfl ?_
          exact Qs.same Z8 rfl
        · refine Ex_iconst dX11_firstMinuteTo_0 rfl ?_
          refine Ex_istore_n (L2 := [_, _, _, _, _]) dX11_firstMinuteTo_1 rfl rfl rfl ?_
          refine Ex_iload_n dX11_firstMinuteTo_2 rfl rfl ?_
          refine Ex_aload_n dX11_firstMinuteTo_3 rfl rfl ?_
          refine Ex_getf dX11_firstMinuteTo_4 rfl (by first | exact z08 | exact hr8) rfl rfl rfl ?_
          refine Ex_getf dX11_firstMinuteTo_7 rfl (by first | exact z08 | exact hr8) rfl rfl rfl ?_
          refine Ex_icmp_ge (t := 82) dX11_firstMinuteTo_10 rfl rfl (by omega) (fun c10 => ?_) (fun c10 => absurd c10 (by omega))
          refine Ex_bipush dX11_firstMinuteTo_82 rfl (by decide) ?_
          refine Ex_iret dX11_firstMinuteTo_84 rfl rfl ?_
          exact Qs.same Z8 rfl
      · obtain ⟨l, rfl⟩ : ∃ j, l = j + 1 := ⟨l - 1, by omega⟩
        have ea : an_mostSteps (n, m, K, F, T, S, C) ((l + 1 : Nat) : Int) w = fmJ (ms l) (n, m, K, F, T, S, C) 0 (ms (l + 1) (n, m, K, F, T, S, C)) (3 * n) := by unfold an_mostSteps; rw [if_pos q, if_neg hw0]; exact if_neg (by omega)
        rw [ea]
        refine Ex_iload_n dX11_mostSteps_0 rfl rfl ?_
        refine Ex_iconst dX11_mostSteps_1 rfl ?_
        refine Ex_iconst dX11_mostSteps_2 rfl ?_
        refine Ex_stat 0 dX11_mostSteps_3 rfl rfl (Or.inl rfl) rfl rfl rfl rfl rfl rfl (Ex_post (x11_within (by omega)) ?_)
        rintro _ _ ⟨rfl, e0⟩
        obtain rfl := Eq.symm e0
        refine Ex_if_eq (t := 18) dX11_mostSteps_6 rfl rfl (by omega) (fun c6 => absurd c6 (by omega)) (fun c6 => ?_)
        refine Ex_iload_n dX11_mostSteps_9 rfl rfl ?_
        refine Ex_iconst dX11_mostSteps_10 rfl ?_
        refine Ex_iconst dX11_mostSteps_11 rfl ?_
        refine Ex_stat 0 dX11_mostSteps_12 rfl rfl (Or.inl rfl) rfl rfl rfl rfl rfl rfl (Ex_post (x11_within (by omega)) ?_)
        rintro _ _ ⟨rfl, e0⟩
        obtain rfl := Eq.symm e0
        refine Ex_if_ne (t := 20) dX11_mostSteps_15 rfl rfl (by omega) (fun c15 => ?_) (fun c15 => absurd c15 (by omega))
        refine Ex_aload_n dX11_mostSteps_20 rfl rfl ?_
        refine Ex_inv 2 dX11_mostSteps_21 rfl rfl (Or.inl rfl) rfl rfl rfl rfl z0 rfl rfl rfl (Ex_post (Ex_d (x11_fromNow (d := 0) Z R hg ky hB hy) (by omega)) ?_)
        rintro _ h9 ⟨rfl, R9, f9⟩
        have Z9 := Z.t0 f9 R9.any
        have R9n := R.fr f9 (by omega)
        have ky9 := ky.fr f9 (by omega)
        refine Ex_pop dX11_mostSteps_24 rfl rfl ?_
        refine Ex_aload_n dX11_mostSteps_25 rfl rfl ?_
        refine Ex_iconst dX11_mostSteps_26 rfl ?_
        refine Ex_iload_n dX11_mostSteps_27 rfl rfl ?_
        refine Ex_inv 2 dX11_mostSteps_28 rfl rfl (Or.inl rfl) rfl rfl rfl rfl ((f9.2 _ (by omega)).trans z0) rfl rfl rfl (Ex_post (Ex_d (x11_most (d := 0) Z9 R9 hg ky9 hB hy (by omega)) (by omega)) ?_)
        rintro _ h8 ⟨rfl, Z8, f8⟩
        have fT : FrS h h8 x := f9.s0.trans (f8.wide (lo2 := x + 28) (by omega) (Nat.le_refl _)).s1
        have R8 := R9n.fr f8 (by omega)
        have ky8 := ky9.fr f8 (by omega)
        obtain ⟨⟨bs8, z08⟩, -⟩ := id Z8
        have hr8 := R8.1
        refine Ex_istore_n (L2 := [_, _, _, _]) dX11_mostSteps_31 rfl rfl rfl ?_
        refine Ex_iload_n dX11_mostSteps_32 rfl rfl ?_
        refine Ex_if_ne (t := 40) dX11_mostSteps_33 rfl rfl (by omega) (fun c33 => ?_) (fun c33 => absurd c33 (by omega))
        refine Ex_aload_n dX11_mostSteps_40 rfl rfl ?_
        refine Ex_iload_n dX11_mostSteps_41 rfl rfl ?_
        refine Ex_iload_n dX11_mostSteps_42 rfl rfl ?_
        refine Ex_inv 2 dX11_mostSteps_43 rfl rfl (Or.inl rfl) rfl rfl rfl rfl z08 rfl rfl rfl (Ex_post (P := fun r1 h1 => Qs h8 h1 x hi (fmJ (ms l) (n, m, K, F, T, S, C) 0 (ms (l + 1) (n, m, K, F, T, S, C)) (3 * n)) r1) ?_ ?_)
        rotate_left
        · rintro r1 h1 ⟨rfl, y2, y3⟩
          refine Ex_iret dX11_mostSteps_46 rfl rfl ?_
          exact ⟨rfl, y2, fT.trans y3⟩
        by_cases hn0 : 0 < n
        · refine Ex_iconst dX11_firstMinuteTo_0 rfl ?_
          refine Ex_istore_n (L2 := [_, _, _, _, _]) dX11_firstMinuteTo_1 rfl rfl rfl ?_
          refine Ex_iload_n dX11_firstMinuteTo_2 rfl rfl ?_
          refine Ex_aload_n dX11_firstMinuteTo_3 rfl rfl ?_
          refine Ex_getf dX11_firstMinuteTo_4 rfl (by first | exact z08 | exact hr8) rfl rfl rfl ?_
          refine Ex_getf dX11_firstMinuteTo_7 rfl (by first | exact z08 | exact hr8) rfl rfl rfl ?_
          refine Ex_icmp_ge (t := 82) dX11_firstMinuteTo_10 rfl rfl (by omega) (fun c10 => absurd c10 (by omega)) (fun c10 => ?_)
          refine Ex_iload_n dX11_firstMinuteTo_13 rfl rfl ?_
          refine Ex_if_le (t := 82) dX11_firstMinuteTo_14 rfl rfl (by omega) (fun c14 => absurd c14 (by omega)) (fun c14 => ?_)
          refine Ex_iconst dX11_firstMinuteTo_17 rfl ?_
          refine Ex_istore (L2 := [_, _, _, _, _]) dX11_firstMinuteTo_18 rfl rfl rfl ?_
          exact Ex_d (x11_first_l (d := 0) hg hB hy (by omega) hms (3 * n) 0 0 h8 hn0 (by omega) (by omega) Z8 R8 ky8) (by omega)
        · obtain rfl : n = 0 := by omega
          refine Ex_iconst dX11_firstMinuteTo_0 rfl ?_
          refine Ex_istore_n (L2 := [_, _, _, _, _]) dX11_firstMinuteTo_1 rfl rfl rfl ?_
          refine Ex_iload_n dX11_firstMinuteTo_2 rfl rfl ?_
          refine Ex_aload_n dX11_firstMinuteTo_3 rfl rfl ?_
          refine Ex_getf dX11_firstMinuteTo_4 rfl (by first | exact z08 | exact hr8) rfl rfl rfl ?_
          refine Ex_getf dX11_firstMinuteTo_7 rfl (by first | exact z08 | exact hr8) rfl rfl rfl ?_
          refine Ex_icmp_ge (t := 82) dX11_firstMinuteTo_10 rfl rfl (by omega) (fun c10 => ?_) (fun c10 => absurd c10 (by omega))
          refine Ex_bipush dX11_firstMinuteTo_82 rfl (by decide) ?_
          refine Ex_iret dX11_firstMinuteTo_84 rfl rfl ?_
          exact Qs.same Z8 rfl
  · refine Ex_iload_n dX11_mostSteps_0 rfl rfl ?_
    refine Ex_iconst dX11_mostSteps_1 rfl ?_
    refine Ex_iconst dX11_mostSteps_2 rfl ?_
    refine Ex_stat 0 dX11_mostSteps_3 rfl rfl (Or.inl rfl) rfl rfl rfl rfl rfl rfl (Ex_post (x11_within (by omega)) ?_)
    rintro _ _ ⟨rfl, e0⟩
    obtain rfl := Eq.symm e0
    refine Ex_if_eq (t := 18) dX11_mostSteps_6 rfl rfl (by omega) (fun c6 => ?_) (fun c6 => ?_)
    · refine Ex_iconst dX11_mostSteps_18 rfl ?_
      refine Ex_iret dX11_mostSteps_19 rfl rfl ?_
      exact Qs.same Z (by unfold an_mostSteps; rw [if_neg q])
    · refine Ex_iload_n dX11_mostSteps_9 rfl rfl ?_
      refine Ex_iconst dX11_mostSteps_10 rfl ?_
      refine Ex_iconst dX11_mostSteps_11 rfl ?_
      refine Ex_stat 0 dX11_mostSteps_12 rfl rfl (Or.inl rfl) rfl rfl rfl rfl rfl rfl (Ex_post (x11_within (by omega)) ?_)
      rintro _ _ ⟨rfl, e0⟩
      obtain rfl := Eq.symm e0
      refine Ex_if_ne (t := 20) dX11_mostSteps_15 rfl rfl (by omega) (fun c15 => ?_) (fun c15 => ?_)
      · exfalso; omega
      · refine Ex_iconst dX11_mostSteps_18 rfl ?_
        refine Ex_iret dX11_mostSteps_19 rfl rfl ?_
        exact Qs.same Z (by unfold an_mostSteps; rw [if_neg q])
