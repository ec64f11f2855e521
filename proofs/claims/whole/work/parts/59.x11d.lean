/-! what is tried on a rail of its own (by program: wip/whole/spec_q.py) -/
theorem Fr.s0 {h h1 : Hp} {x : Nat} (f : Fr h h1 (x + 28) (x + 37)) : FrS h h1 x := f.frS (fun q _ _ => by omega)
/-- a question's end -/
def Qs (h h1 : Hp) (x : Nat) (hi a : Int) (r1 : Option Value) : Prop := r1 = some (.int (i32 a)) ∧ Scr h1 x hi ∧ FrS h h1 x
theorem Qs.trans {h h1 h2 : Hp} {x : Nat} {hi a : Int} {r1 : Option Value} (f : FrS h h1 x) (q : Qs h1 h2 x hi a r1) : Qs h h2 x hi a r1 := ⟨q.1, q.2.1, f.trans q.2.2⟩
theorem Qs.same {h : Hp} {x : Nat} {hi a b : Int} (Z : Scr h x hi) (e : b = a) : Qs h h x hi a (some (.int (i32 b))) := ⟨by rw [e], Z, FrS.rf _ _⟩
theorem Qs.fr {h h1 : Hp} {x : Nat} {hi a b : Int} (Z : Scr h1 x hi) (f : FrS h h1 x) (e : b = a) : Qs h h1 x hi a (some (.int (i32 b))) := ⟨by rw [e], Z, f⟩
theorem bt_r {p : Nat → Bool} : ∀ (k c : Nat), 0 ≤ bt p c k ∧ bt p c k + 2 ^ c ≤ (2 : Int) ^ (c + k)
  | 0, c => by simp [bt]
  | k + 1, c => by
    have h1 := bt_r (p := p) k (c + 1)
    have h2 := pow2_s c
    have h3 := pow2_pos c
    rw [show c + (k + 1) = c + 1 + k by omega]
    simp only [bt]
    split <;> omega
theorem bt_256 {p : Nat → Bool} {n : Nat} (hn : n ≤ 6) : 0 ≤ bt p 0 n ∧ bt p 0 n < 64 := by
  have h := bt_r (p := p) n 0
  rw [Nat.zero_add] at h
  have h2 : (2 : Int) ^ n ≤ 64 := by rcases (show n = 0 ∨ n = 1 ∨ n = 2 ∨ n = 3 ∨ n = 4 ∨ n = 5 ∨ n = 6 by omega) with e | e | e | e | e | e | e <;> rw [e] <;> decide
  have h3 : (2 : Int) ^ 0 = 1 := rfl
  omega
/-- BY TURNS: k MINUTES on; how many HELD -/
def byT (K F : Nat → Int) (n : Nat) (X : TS) (held : Int) : Nat → TS × Int
  | 0 => (X, held)
  | k + 1 => byT K F n (tst K F n X) (if tw K F n X = 0 then held + 1 else held) k
def byA (K F : Nat → Int) (n : Nat) (X : TS) (held w : Int) (k : Nat) : Int := if w = 0 then pop (bt (swB (byT K F n X held k).1.2.2.2.1) 0 n).toNat else (byT K F n X held k).2
def an_byTurns (n : Nat) (m : Int) (K F T S C : Nat → Int) (l w : Int) : Int :=
  if (0 ≤ l ∧ l ≤ 99) ∧ (0 ≤ w ∧ w ≤ 1) then byA K F n (m, 0, T, S, C) 0 w l.toNat else -1
def alS (K F : Nat → Int) (n : Nat) (X : TS) (i : Int) : Nat → Int
  | 0 => -4
  | k + 1 => if tw K F n X = -4 then i else alS K F n (tst K F n X) (i + 1) k
def fgt (n : Nat) (K F T S : Nat → Int) (w : Int) : Nat → Int
  | 0 => -4
  | k + 1 => if bt (rdB K F (brT w n T) (brS w n S)) 0 n = 0 then w else fgt n K F T S (w + 1) k
/-- FORGED: pairs from i on -/
def fgd (xs : List Int) (X : RS) (i : Int) : Nat → Int
  | 0 => -4
  | k + 1 => if (0 ≤ gx xs (2 * i) ∧ gx xs (2 * i) < (X.1 : Int)) ∧ X.2.2.2.2.2.1 (gx xs (2 * i)).toNat < 7 ∧ (0 ≤ gx xs (2 * i + 1) ∧ gx xs (2 * i + 1) ≤ 3) then fgd xs (rsM (gx xs (2 * i)).toNat (gx xs (2 * i + 1)) X) (i + 1) k else i
/-- JUDGED: from i on -/
def jdg (K F : Nat → Int) (n c : Nat) (so : Int) (xs : List Int) (X : TS) (i : Int) : Nat → Int
  | 0 => -4
  | k + 1 => if gx xs i ≠ lst so ∧ gx xs i ≠ X.2.2.1 c then i else jdg K F n c so xs (tst K F n X) (i + 1) k
theorem tw_v {K F : Nat → Int} {n : Nat} {X : TS} : tw K F n X = -4 ∨ tw K F n X = 0 ∨ tw K F n X = 2 := by
  unfold tw
  split
  · exact Or.inl rfl
  · unfold twc
    split
    · exact Or.inr (Or.inr rfl)
    · exact Or.inr (Or.inl rfl)
theorem x11_byTurns_l {E : am_E} {d : Nat} {x y n : Nat} {hi : Int} {kr : Nat → Nat} {K F : Nat → Int} {l w : Int}  (hB : E.2 ≤ x) (hy : x + 57 ≤ y) (hl : 0 ≤ l ∧ l ≤ 99) (hw : 0 ≤ w ∧ w ≤ 1)  : ∀ (k : Nat) (i held : Int) (X : TS) (h : Hp), i + k = l → 0 ≤ i → Scr h x hi → RailX h (x + 28) n kr X → RngX n X → KY h y n kr K F → X.2.1 ≤ n → Ex E (d + 6) mX11_byTurns 32 [.ref x, .int (i32 l), .int (i32 w), .ref (x + 28), .int (i32 held), .int (i32 i)] [] h (fun r1 h1 => Qs h h1 x hi (byA K F n X held w k) r1) := by
  intro k
  induction k with
  | zero =>
    intro i held X h hk hi0 Z R9 hgX ky htu
    obtain ⟨hr9, hA9, hP9, hG9, hn6⟩ := id R9
    have kk9 := ky.ok (r := x + 28) (by omega)
    have hF9 : ∀ i, i < n → 0 ≤ F i ∧ F i ≤ 9 := fun i hi => (ky i hi).1.2.2.2
    have htw := tw_v (K := K) (F := F) (n := n) (X := X)
    have hb := bt_256 (p := swB X.2.2.2.1) hn6
    by_cases hw0 : w = 0
    · have ea : byA K F n X held w 0 = pop (bt (swB X.2.2.2.1) 0 n).toNat := by unfold byA; rw [if_pos hw0]; rfl
      rw [ea]
      refine Ex_iload dX11_byTurns_32 rfl rfl ?_
      refine Ex_iload_n dX11_byTurns_34 rfl rfl ?_
      refine Ex_icmp_ge (t := 54) dX11_byTurns_35 rfl rfl (by omega) (fun c35 => ?_) (fun c35 => absurd c35 (by omega))
      refine Ex_iload_n dX11_byTurns_54 rfl rfl ?_
      refine Ex_if_ne (t := 68) dX11_byTurns_55 rfl rfl (by omega) (fun c55 => absurd c55 (by omega)) (fun c55 => ?_)
      refine Ex_aload_n dX11_byTurns_58 rfl rfl ?_
      refine Ex_inv 2 dX11_byTurns_59 rfl rfl (Or.inl rfl) rfl rfl rfl rfl hr9 rfl rfl rfl (Ex_post (x7_swimBits R9 hgX) ?_)
      rintro _ _ ⟨rfl, e0⟩
      obtain rfl := Eq.symm e0
      rw [show bt (swB X.2.2.2.1) 0 n = (((bt (swB X.2.2.2.1) 0 n).toNat : Nat) : Int) by omega]
      refine Ex_stat 0 dX11_byTurns_62 rfl rfl (Or.inl rfl) rfl rfl rfl rfl rfl rfl (Ex_post (j6_bitCount (by omega)) ?_)
      rintro _ _ ⟨rfl, e0⟩
      obtain rfl := Eq.symm e0
      refine Ex_goto (t := 70) dX11_byTurns_65 rfl ?_
      refine Ex_iret dX11_byTurns_70 rfl rfl ?_
      exact Qs.same Z rfl
    · have ea : byA K F n X held w 0 = held := by unfold byA; rw [if_neg hw0]; rfl
      rw [ea]
      refine Ex_iload dX11_byTurns_32 rfl rfl ?_
      refine Ex_iload_n dX11_byTurns_34 rfl rfl ?_
      refine Ex_icmp_ge (t := 54) dX11_byTurns_35 rfl rfl (by omega) (fun c35 => ?_) (fun c35 => absurd c35 (by omega))
      refine Ex_iload_n dX11_byTurns_54 rfl rfl ?_
      refine Ex_if_ne (t := 68) dX11_byTurns_55 rfl rfl (by omega) (fun c55 => ?_) (fun c55 => absurd c55 (by omega))
      refine Ex_iload dX11_byTurns_68 rfl rfl ?_
      refine Ex_iret dX11_byTurns_70 rfl rfl ?_
      exact Qs.same Z rfl
  | succ k ih =>
    intro i held X h hk hi0 Z R9 hgX ky htu
    obtain ⟨hr9, hA9, hP9, hG9, hn6⟩ := id R9
    have kk9 := ky.ok (r := x + 28) (by omega)
    have hF9 : ∀ i, i < n → 0 ≤ F i ∧ F i ≤ 9 := fun i hi => (ky i hi).1.2.2.2
    have htw := tw_v (K := K) (F := F) (n := n) (X := X)
    have eb : byA K F n X held w (k + 1) = byA K F n (tst K F n X) (if tw K F n X = 0 then held + 1 else held) w k := rfl
    rw [eb]
    by_cases q : tw K F n X = 0
    · rw [if_pos q]
      refine Ex_iload dX11_byTurns_32 rfl rfl ?_
      refine Ex_iload_n dX11_byTurns_34 rfl rfl ?_
      refine Ex_icmp_ge (t := 54) dX11_byTurns_35 rfl rfl (by omega) (fun c35 => absurd c35 (by omega)) (fun c35 => ?_)
      refine Ex_aload_n dX11_byTurns_38 rfl rfl ?_
      refine Ex_inv 2 dX11_byTurns_39 rfl rfl (Or.inl rfl) rfl rfl rfl rfl hr9 rfl rfl rfl (Ex_post (x7_takeTurn R9 hgX kk9 (by omega) htu) ?_)
      rintro _ h8 ⟨rfl, R8, f8⟩
      have Z8 := Z.t0 f8 (RailAt.any R8)
      have g8 := tst_r (K := K) (F := F) hgX hF9
      refine Ex_if_ne (t := 48) dX11_byTurns_42 rfl rfl (by omega) (fun c42 => absurd c42 (by omega)) (fun c42 => ?_)
      refine Ex_iinc (L2 := [_, _, _, _, _, _]) dX11_byTurns_45 rfl rfl rfl ?_
      refine Ex_iinc (L2 := [_, _, _, _, _, _]) dX11_byTurns_48 rfl rfl rfl ?_
      refine Ex_goto (t := 32) dX11_byTurns_51 rfl ?_
      refine Ex_post (ih (i + 1) _ _ _ (by omega) (by omega) Z8 R8 g8 (ky.fr f8 (by omega)) (tst_tu htu)) ?_
      intro r1 h1 z
      exact Qs.trans f8.s0 z
    · rw [if_neg q]
      refine Ex_iload dX11_byTurns_32 rfl rfl ?_
      refine Ex_iload_n dX11_byTurns_34 rfl rfl ?_
      refine Ex_icmp_ge (t := 54) dX11_byTurns_35 rfl rfl (by omega) (fun c35 => absurd c35 (by omega)) (fun c35 => ?_)
      refine Ex_aload_n dX11_byTurns_38 rfl rfl ?_
      refine Ex_inv 2 dX11_byTurns_39 rfl rfl (Or.inl rfl) rfl rfl rfl rfl hr9 rfl rfl rfl (Ex_post (x7_takeTurn R9 hgX kk9 (by omega) htu) ?_)
      rintro _ h8 ⟨rfl, R8, f8⟩
      have Z8 := Z.t0 f8 (RailAt.any R8)
      have g8 := tst_r (K := K) (F := F) hgX hF9
      refine Ex_if_ne (t := 48) dX11_byTurns_42 rfl rfl (by omega) (fun c42 => ?_) (fun c42 => absurd c42 (by omega))
      refine Ex_iinc (L2 := [_, _, _, _, _, _]) dX11_byTurns_48 rfl rfl rfl ?_
      refine Ex_goto (t := 32) dX11_byTurns_51 rfl ?_
      refine Ex_post (ih (i + 1) _ _ _ (by omega) (by omega) Z8 R8 g8 (ky.fr f8 (by omega)) (tst_tu htu)) ?_
      intro r1 h1 z
      exact Qs.trans f8.s0 z
theorem x11_byTurns {E : am_E} {d : Nat} {h : Hp} {x y n : Nat} {hi m tu : Int} {kr : Nat → Nat} {K F T S C : Nat → Int} {l w : Int}  (Z : Scr h x hi) (R : RailAt h (x + 10) n m tu kr T S C) (hg : Rng n T S C) (ky : KY h y n kr K F) (hB : E.2 ≤ x) (hy : x + 57 ≤ y) (hl : (-2147483648 ≤ l ∧ l ≤ 2147483647)) (hw : (-2147483648 ≤ w ∧ w ≤ 2147483647))  : Ex E (d + 6) mX11_byTurns 0 [.ref x, .int (i32 l), .int (i32 w), .retAddr 0, .retAddr 0, .retAddr 0] [] h (fun r1 h1 => Qs h h1 x hi (an_byTurns n m K F T S C l w) r1) := by
  obtain ⟨⟨bs, z0⟩, z1, ⟨f2, z2⟩, ⟨f3, z3⟩, ⟨f4, z4⟩, ⟨f5, z5⟩, zr0, zr1, zr2, ⟨k5, t5, s5, c5, z55⟩, ⟨k6, t6, s6, c6, z56⟩⟩ := id Z
  obtain ⟨hr, hA, hP, hG, hn6⟩ := id R
  have kk := ky.ok (r := x + 10) (by omega)
  by_cases q : (0 ≤ l ∧ l ≤ 99) ∧ (0 ≤ w ∧ w ≤ 1)
  · have ea : an_byTurns n m K F T S C l w = byA K F n (m, 0, T, S, C) 0 w l.toNat := by unfold an_byTurns; exact if_pos q
    rw [ea]
    refine Ex_iload_n dX11_byTurns_0 rfl rfl ?_
    refine Ex_iconst dX11_byTurns_1 rfl ?_
    refine Ex_bipush dX11_byTurns_2 rfl (by decide) ?_
    refine Ex_stat 0 dX11_byTurns_4 rfl rfl (Or.inl rfl) rfl rfl rfl rfl rfl rfl (Ex_post (x11_within (by omega)) ?_)
    rintro _ _ ⟨rfl, e0⟩
    obtain rfl := Eq.symm e0
    refine Ex_if_eq (t := 19) dX11_byTurns_7 rfl rfl (by omega) (fun c7 => absurd c7 (by omega)) (fun c7 => ?_)
    refine Ex_iload_n dX11_byTurns_10 rfl rfl ?_
    refine Ex_iconst dX11_byTurns_11 rfl ?_
    refine Ex_iconst dX11_byTurns_12 rfl ?_
    refine Ex_stat 0 dX11_byTurns_13 rfl rfl (Or.inl rfl) rfl rfl rfl rfl rfl rfl (Ex_post (x11_within (by omega)) ?_)
    rintro _ _ ⟨rfl, e0⟩
    obtain rfl := Eq.symm e0
    refine Ex_if_ne (t := 21) dX11_byTurns_16 rfl rfl (by omega) (fun c16 => ?_) (fun c16 => absurd c16 (by omega))
    refine Ex_aload_n dX11_byTurns_21 rfl rfl ?_
    refine Ex_inv 2 dX11_byTurns_22 rfl rfl (Or.inl rfl) rfl rfl rfl rfl z0 rfl rfl rfl (Ex_post (x11_fromNow Z R hg ky hB hy) ?_)
    rintro _ h9 ⟨rfl, R9, f9⟩
    refine Ex_astore_n (L2 := [_, _, _, _, _, _]) dX11_byTurns_25 rfl rfl rfl ?_
    refine Ex_iconst dX11_byTurns_26 rfl ?_
    refine Ex_istore (L2 := [_, _, _, _, _, _]) dX11_byTurns_27 rfl rfl rfl ?_
    refine Ex_iconst dX11_byTurns_29 rfl ?_
    refine Ex_istore (L2 := [_, _, _, _, _, _]) dX11_byTurns_30 rfl rfl rfl ?_
    refine Ex_post (x11_byTurns_l hB hy q.1 q.2 l.toNat 0 0 (m, 0, T, S, C) h9 (by omega) (by omega) (Z.t0 f9 R9.any) R9 hg (ky.fr f9 (by omega)) (Nat.zero_le _)) ?_
    intro r1 h1 z
    exact Qs.trans f9.s0 z
  · refine Ex_iload_n dX11_byTurns_0 rfl rfl ?_
    refine Ex_iconst dX11_byTurns_1 rfl ?_
    refine Ex_bipush dX11_byTurns_2 rfl (by decide) ?_
    refine Ex_stat 0 dX11_byTurns_4 rfl rfl (Or.inl rfl) rfl rfl rfl rfl rfl rfl (Ex_post (x11_within (by omega)) ?_)
    rintro _ _ ⟨rfl, e0⟩
    obtain rfl := Eq.symm e0
    refine Ex_if_eq (t := 19) dX11_byTurns_7 rfl rfl (by omega) (fun c7 => ?_) (fun c7 => ?_)
    · refine Ex_iconst dX11_byTurns_19 rfl ?_
      refine Ex_iret dX11_byTurns_20 rfl rfl ?_
      exact Qs.same Z (by unfold an_byTurns; rw [if_neg q])
    · refine Ex_iload_n dX11_byTurns_10 rfl rfl ?_
      refine Ex_iconst dX11_byTurns_11 rfl ?_
      refine Ex_iconst dX11_byTurns_12 rfl ?_
      refine Ex_stat 0 dX11_byTurns_13 rfl rfl (Or.inl rfl) rfl rfl rfl rfl rfl rfl (Ex_post (x11_within (by omega)) ?_)
      rintro _ _ ⟨rfl, e0⟩
      obtain rfl := Eq.symm e0
      refine Ex_if_ne (t := 21) dX11_byTurns_16 rfl rfl (by omega) (fun c16 => ?_) (fun c16 => ?_)
      · exfalso; omega
      · refine Ex_iconst dX11_byTurns_19 rfl ?_
        refine Ex_iret dX11_byTurns_20 rfl rfl ?_
        exact Qs.same Z (by unfold an_byTurns; rw [if_neg q])
theorem x11_allSwim_l {E : am_E} {d : Nat} {x y n : Nat} {hi : Int} {kr : Nat → Nat} {K F : Nat → Int}  (hB : E.2 ≤ x) (hy : x + 57 ≤ y)  : ∀ (k : Nat) (i : Int) (X : TS) (h : Hp), i + k = 100 → 0 ≤ i → Scr h x hi → RailX h (x + 28) n kr X → RngX n X → KY h y n kr K F → X.2.1 ≤ n → Ex E (d + 6) mX11_allSwim 7 [.ref x, .ref (x + 28), .int (i32 i)] [] h (fun r1 h1 => Qs h h1 x hi (alS K F n X i k) r1) := by
  intro k
  induction k with
  | zero =>
    intro i X h hk hi0 Z R9 hgX ky htu
    obtain ⟨hr9, hA9, hP9, hG9, hn6⟩ := id R9
    have kk9 := ky.ok (r := x + 28) (by omega)
    have hF9 : ∀ i, i < n → 0 ≤ F i ∧ F i ≤ 9 := fun i hi => (ky i hi).1.2.2.2
    have htw := tw_v (K := K) (F := F) (n := n) (X := X)
    · refine Ex_iload_n dX11_allSwim_7 rfl rfl ?_
      refine Ex_bipush dX11_allSwim_8 rfl (by decide) ?_
      refine Ex_icmp_gt (t := 30) dX11_allSwim_10 rfl rfl (by omega) (fun c10 => ?_) (fun c10 => absurd c10 (by omega))
      refine Ex_bipush dX11_allSwim_30 rfl (by decide) ?_
      refine Ex_iret dX11_allSwim_32 rfl rfl ?_
      exact Qs.same Z rfl
  | succ k ih =>
    intro i X h hk hi0 Z R9 hgX ky htu
    obtain ⟨hr9, hA9, hP9, hG9, hn6⟩ := id R9
    have kk9 := ky.ok (r := x + 28) (by omega)
    have hF9 : ∀ i, i < n → 0 ≤ F i ∧ F i ≤ 9 := fun i hi => (ky i hi).1.2.2.2
    have htw := tw_v (K := K) (F := F) (n := n) (X := X)
    have eb : alS K F n X i (k + 1) = if tw K F n X = -4 then i else alS K F n (tst K F n X) (i + 1) k := rfl
    rw [eb]
    by_cases q : tw K F n X = -4
    · rw [if_pos q]
      refine Ex_iload_n dX11_allSwim_7 rfl rfl ?_
      refine Ex_bipush dX11_allSwim_8 rfl (by decide) ?_
      refine Ex_icmp_gt (t := 30) dX11_allSwim_10 rfl rfl (by omega) (fun c10 => absurd c10 (by omega)) (fun c10 => ?_)
      refine Ex_aload_n dX11_allSwim_13 rfl rfl ?_
      refine Ex_inv 2 dX11_allSwim_14 rfl rfl (Or.inl rfl) rfl rfl rfl rfl hr9 rfl rfl rfl (Ex_post (x7_takeTurn R9 hgX kk9 (by omega) htu) ?_)
      rintro _ h8 ⟨rfl, R8, f8⟩
      have Z8 := Z.t0 f8 (RailAt.any R8)
      have g8 := tst_r (K := K) (F := F) hgX hF9
      refine Ex_bipush dX11_allSwim_17 rfl (by decide) ?_
      refine Ex_icmp_ne (t := 24) dX11_allSwim_19 rfl rfl (by omega) (fun c19 => absurd c19 (by omega)) (fun c19 => ?_)
      refine Ex_iload_n dX11_allSwim_22 rfl rfl ?_
      refine Ex_iret dX11_allSwim_23 rfl rfl ?_
      exact Qs.fr Z8 f8.s0 rfl
    · rw [if_neg q]
      refine Ex_iload_n dX11_allSwim_7 rfl rfl ?_
      refine Ex_bipush dX11_allSwim_8 rfl (by decide) ?_
      refine Ex_icmp_gt (t := 30) dX11_allSwim_10 rfl rfl (by omega) (fun c10 => absurd c10 (by omega)) (fun c10 => ?_)
      refine Ex_aload_n dX11_allSwim_13 rfl rfl ?_
      refine Ex_inv 2 dX11_allSwim_14 rfl rfl (Or.inl rfl) rfl rfl rfl rfl hr9 rfl rfl rfl (Ex_post (x7_takeTurn R9 hgX kk9 (by omega) htu) ?_)
      rintro _ h8 ⟨rfl, R8, f8⟩
      have Z8 := Z.t0 f8 (RailAt.any R8)
      have g8 := tst_r (K := K) (F := F) hgX hF9
      refine Ex_bipush dX11_allSwim_17 rfl (by decide) ?_
      refine Ex_icmp_ne (t := 24) dX11_allSwim_19 rfl rfl (by omega) (fun c19 => ?_) (fun c19 => absurd c19 (by omega))
      refine Ex_iinc (L2 := [_, _, _]) dX11_allSwim_24 rfl rfl rfl ?_
      refine Ex_goto (t := 7) dX11_allSwim_27 rfl ?_
      refine Ex_post (ih (i + 1) _ _ (by omega) (by omega) Z8 R8 g8 (ky.fr f8 (by omega)) (tst_tu htu)) ?_
      intro r1 h1 z
      exact Qs.trans f8.s0 z
theorem x11_allSwim {E : am_E} {d : Nat} {h : Hp} {x y n : Nat} {hi m tu : Int} {kr : Nat → Nat} {K F T S C : Nat → Int}  (Z : Scr h x hi) (R : RailAt h (x + 10) n m tu kr T S C) (hg : Rng n T S C) (ky : KY h y n kr K F) (hB : E.2 ≤ x) (hy : x + 57 ≤ y)  : Ex E (d + 6) mX11_allSwim 0 [.ref x, .retAddr 0, .retAddr 0] [] h (fun r1 h1 => Qs h h1 x hi (alS K F n (m, 0, T, S, C) 0 100) r1) := by
  obtain ⟨⟨bs, z0⟩, z1, ⟨f2, z2⟩, ⟨f3, z3⟩, ⟨f4, z4⟩, ⟨f5, z5⟩, zr0, zr1, zr2, ⟨k5, t5, s5, c5, z55⟩, ⟨k6, t6, s6, c6, z56⟩⟩ := id Z
  obtain ⟨hr, hA, hP, hG, hn6⟩ := id R
  have kk := ky.ok (r := x + 10) (by omega)
  refine Ex_aload_n dX11_allSwim_0 rfl rfl ?_
  refine Ex_inv 2 dX11_allSwim_1 rfl rfl (Or.inl rfl) rfl rfl rfl rfl z0 rfl rfl rfl (Ex_post (x11_fromNow Z R hg ky hB hy) ?_)
  rintro _ h9 ⟨rfl, R9, f9⟩
  refine Ex_astore_n (L2 := [_, _, _]) dX11_allSwim_4 rfl rfl rfl ?_
  refine Ex_iconst dX11_allSwim_5 rfl ?_
  refine Ex_istore_n (L2 := [_, _, _]) dX11_allSwim_6 rfl rfl rfl ?_
  refine Ex_post (x11_allSwim_l hB hy 100 0 (m, 0, T, S, C) h9 (by omega) (by omega) (Z.t0 f9 R9.any) R9 hg (ky.fr f9 (by omega)) (Nat.zero_le _)) ?_
  intro r1 h1 z
  exact Qs.trans f9.s0 z
theorem x11_forget_l {E : am_E} {d : Nat} {x y n : Nat} {hi m tu : Int} {kr : Nat → Nat} {K F T S C : Nat → Int}  (hg : Rng n T S C) (hB : E.2 ≤ x) (hy : x + 57 ≤ y)  : ∀ (k : Nat) (i : Int) (v2 : Value) (h : Hp), i + k = 10 → 0 ≤ i → Scr h x hi → RailAt h (x + 10) n m tu kr T S C → KY h y n kr K F → Ex E (d + 4) mX11_forget 2 [.ref x, .int (i32 i), v2] [] h (fun r1 h1 => Qs h h1 x hi (fgt n K F T S i k) r1) := by
  intro k
  induction k with
  | zero =>
    intro i v2 h hk hi0 Z R ky
    obtain ⟨⟨bs, z0⟩, z1, ⟨f2, z2⟩, ⟨f3, z3⟩, ⟨f4, z4⟩, ⟨f5, z5⟩, zr0, zr1, zr2, ⟨k5, t5, s5, c5, z55⟩, ⟨k6, t6, s6, c6, z56⟩⟩ := id Z
    obtain ⟨hr, hA, hP, hG, hn6⟩ := id R
    have kk := ky.ok (r := x + 10) (by omega)
    
    · refine Ex_iload_n dX11_forget_2 rfl rfl ?_
      refine Ex_bipush dX11_forget_3 rfl (by decide) ?_
      refine Ex_icmp_gt (t := 33) dX11_forget_5 rfl rfl (by omega) (fun c5 => ?_) (fun c5 => absurd c5 (by omega))
      refine Ex_bipush dX11_forget_33 rfl (by decide) ?_
      refine Ex_iret dX11_forget_35 rfl rfl ?_
      exact Qs.same Z rfl
  | succ k ih =>
    intro i v2 h hk hi0 Z R ky
    obtain ⟨⟨bs, z0⟩, z1, ⟨f2, z2⟩, ⟨f3, z3⟩, ⟨f4, z4⟩, ⟨f5, z5⟩, zr0, zr1, zr2, ⟨k5, t5, s5, c5, z55⟩, ⟨k6, t6, s6, c6, z56⟩⟩ := id Z
    obtain ⟨hr, hA, hP, hG, hn6⟩ := id R
    have kk := ky.ok (r := x + 10) (by omega)
    have eb : fgt n K F T S i (k + 1) = if bt (rdB K F (brT i n T) (brS i n S)) 0 n = 0 then i else fgt n K F T S (i + 1) k := rfl
    rw [eb]
    have hb := bt_256 (p := rdB K F (brT i n T) (brS i n S)) hn6
    by_cases q : bt (rdB K F (brT i n T) (brS i n S)) 0 n = 0
    · rw [if_pos q]
      refine Ex_iload_n dX11_forget_2 rfl rfl ?_
      refine Ex_bipush dX11_forget_3 rfl (by decide) ?_
      refine Ex_icmp_gt (t := 33) dX11_forget_5 rfl rfl (by omega) (fun c5 => absurd c5 (by omega)) (fun c5 => ?_)
      refine Ex_aload_n dX11_forget_8 rfl rfl ?_
      refine Ex_inv 2 dX11_forget_9 rfl rfl (Or.inl rfl) rfl rfl rfl rfl z0 rfl rfl rfl (Ex_post (x11_fromNow Z R hg ky hB hy) ?_)
      rintro _ h9 ⟨rfl, R9, f9⟩
      refine Ex_astore_n (L2 := [_, _, _]) dX11_forget_12 rfl rfl rfl ?_
      refine Ex_aload_n dX11_forget_13 rfl rfl ?_
      refine Ex_iload_n dX11_forget_14 rfl rfl ?_
      refine Ex_inv 2 dX11_forget_15 rfl rfl (Or.inl rfl) rfl rfl rfl rfl R9.1 rfl rfl rfl (Ex_post (x7_pause R9 hg (by omega) (by omega)) ?_)
      rintro _ h8 ⟨rfl, R8, f8⟩
      have g8 := br_r (w := i) hg hi0
      have ky8 := (ky.fr f9 (by omega)).fr f8 (by omega)
      have Z8 := (Z.t0 f9 R9.any).t0 f8 R8.any
      refine Ex_aload_n dX11_forget_18 rfl rfl ?_
      refine Ex_inv 2 dX11_forget_19 rfl rfl (Or.inl rfl) rfl rfl rfl rfl R8.1 rfl rfl rfl (Ex_post (x7_readyBits R8 g8 (ky8.ok (by omega))) ?_)
      rintro _ _ ⟨rfl, e8⟩
      obtain rfl := Eq.symm e8
      refine Ex_if_ne (t := 27) dX11_forget_22 rfl rfl (by omega) (fun c22 => absurd c22 (by omega)) (fun c22 => ?_)
      refine Ex_iload_n dX11_forget_25 rfl rfl ?_
      refine Ex_iret dX11_forget_26 rfl rfl ?_
      exact Qs.fr Z8 (f9.s0.trans f8.s0) rfl
    · rw [if_neg q]
      refine Ex_iload_n dX11_forget_2 rfl rfl ?_
      refine Ex_bipush dX11_forget_3 rfl (by decide) ?_
      refine Ex_icmp_gt (t := 33) dX11_forget_5 rfl rfl (by omega) (fun c5 => absurd c5 (by omega)) (fun c5 => ?_)
      refine Ex_aload_n dX11_forget_8 rfl rfl ?_
      refine Ex_inv 2 dX11_forget_9 rfl rfl (Or.inl rfl) rfl rfl rfl rfl z0 rfl rfl rfl (Ex_post (x11_fromNow Z R hg ky hB hy) ?_)
      rintro _ h9 ⟨rfl, R9, f9⟩
      refine Ex_astore_n (L2 := [_, _, _]) dX11_forget_12 rfl rfl rfl ?_
      refine Ex_aload_n dX11_forget_13 rfl rfl ?_
      refine Ex_iload_n dX11_forget_14 rfl rfl ?_
      refine Ex_inv 2 dX11_forget_15 rfl rfl (Or.inl rfl) rfl rfl rfl rfl R9.1 rfl rfl rfl (Ex_post (x7_pause R9 hg (by omega) (by omega)) ?_)
      rintro _ h8 ⟨rfl, R8, f8⟩
      have g8 := br_r (w := i) hg hi0
      have ky8 := (ky.fr f9 (by omega)).fr f8 (by omega)
      have Z8 := (Z.t0 f9 R9.any).t0 f8 R8.any
      refine Ex_aload_n dX11_forget_18 rfl rfl ?_
      refine Ex_inv 2 dX11_forget_19 rfl rfl (Or.inl rfl) rfl rfl rfl rfl R8.1 rfl rfl rfl (Ex_post (x7_readyBits R8 g8 (ky8.ok (by omega))) ?_)
      rintro _ _ ⟨rfl, e8⟩
      obtain rfl := Eq.symm e8
      refine Ex_if_ne (t := 27) dX11_forget_22 rfl rfl (by omega) (fun c22 => ?_) (fun c22 => absurd c22 (by omega))
      refine Ex_iinc (L2 := [_, _, _]) dX11_forget_27 rfl rfl rfl ?_
      refine Ex_goto (t := 2) dX11_forget_30 rfl ?_
      refine Ex_post (ih (i + 1) _ _ (by omega) (by omega) Z8 ((R.fr f9 (by omega)).fr f8 (by omega)) ky8) ?_
      intro r1 h1 z
      exact Qs.trans (f9.s0.trans f8.s0) z
theorem x11_forget {E : am_E} {d : Nat} {h : Hp} {x y n : Nat} {hi m tu : Int} {kr : Nat → Nat} {K F T S C : Nat → Int}  (Z : Scr h x hi) (R : RailAt h (x + 10) n m tu kr T S C) (hg : Rng n T S C) (ky : KY h y n kr K F) (hB : E.2 ≤ x) (hy : x + 57 ≤ y)  : Ex E (d + 4) mX11_forget 0 [.ref x, .retAddr 0, .retAddr 0] [] h (fun r1 h1 => Qs h h1 x hi (fgt n K F T S 0 10) r1) := by
  refine Ex_iconst dX11_forget_0 rfl ?_
  refine Ex_istore_n (L2 := [_, _, _]) dX11_forget_1 rfl rfl rfl ?_
  exact x11_forget_l hg hB hy 10 0 _ h (by omega) (by omega) Z R ky
