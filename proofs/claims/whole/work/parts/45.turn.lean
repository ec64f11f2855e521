/-! BY TURNS (by program: wip/whole/spec_f.py) -/
/-- minute, turn, trust, step, cold -/
abbrev TS : Type := Int × Nat × (Nat → Int) × (Nat → Int) × (Nat → Int)
/-- who is next, from p on, k of them -/
def nx (S : Nat → Int) (n tu p : Nat) : Nat → Option Nat
  | 0 => none
  | k + 1 => if S ((tu + p) % n) < 7 then some ((tu + p) % n) else nx S n tu (p + 1) k
theorem nx_lt {S : Nat → Int} {n tu : Nat} (hn : 0 < n) : ∀ (k p : Nat) {c : Nat}, nx S n tu p k = some c → c < n ∧ S c < 7
  | 0, p, c, h => by simp [nx] at h
  | k + 1, p, c, h => by
    simp only [nx] at h
    split at h
    · rename_i hq
      cases h
      exact ⟨Nat.mod_lt _ hn, hq⟩
    · exact nx_lt hn k (p + 1) h
/-- the next minute's WAY by the one that is next -/
def twc (K F : Nat → Int) (x : TS) (c : Nat) : Int := if sp_needs (K c) (F c) (x.2.2.2.1 c) ≤ x.2.2.1 c then 2 else 0
def tsc (K F : Nat → Int) (n : Nat) (x : TS) (c : Nat) : TS := (x.1 + 1, c + 1, minT n c (twc K F x c) K F x.2.2.1 x.2.2.2.1 x.2.2.2.2, mnS c (twc K F x c) K F x.2.2.1 x.2.2.2.1, minC n c (twc K F x c) K F x.2.2.1 x.2.2.2.1 x.2.2.2.2)
def tw (K F : Nat → Int) (n : Nat) (x : TS) : Int := match nx x.2.2.2.1 n x.2.1 0 n with
  | none => -4
  | some c => twc K F x c
def tst (K F : Nat → Int) (n : Nat) (x : TS) : TS := match nx x.2.2.2.1 n x.2.1 0 n with
  | none => x
  | some c => tsc K F n x c
def RailX (h : Hp) (r n : Nat) (kr : Nat → Nat) (x : TS) : Prop := RailAt h r n x.1 (x.2.1 : Int) kr x.2.2.1 x.2.2.2.1 x.2.2.2.2
def RngX (n : Nat) (x : TS) : Prop := Rng n x.2.2.1 x.2.2.2.1 x.2.2.2.2
theorem twc_w {K F : Nat → Int} {x : TS} {c : Nat} : 0 ≤ twc K F x c ∧ twc K F x c ≤ 3 := by unfold twc; split <;> omega
theorem tst_r {K F : Nat → Int} {n : Nat} {x : TS} (hg : RngX n x) (hF : ∀ i, i < n → 0 ≤ F i ∧ F i ≤ 9) : RngX n (tst K F n x) := by
  unfold tst
  split
  · exact hg
  · rename_i c hc
    by_cases hn : 0 < n
    · obtain ⟨h1, h2⟩ := nx_lt hn _ _ hc
      exact min_r hg hF h1 h2
    · obtain rfl : n = 0 := by omega
      simp [nx] at hc
theorem tst_tu {K F : Nat → Int} {n : Nat} {x : TS} (h : x.2.1 ≤ n) : (tst K F n x).2.1 ≤ n := by
  unfold tst
  split
  · exact h
  · rename_i c hc
    by_cases hn : 0 < n
    · exact (nx_lt hn _ _ hc).1
    · obtain rfl : n = 0 := by omega
      simp [nx] at hc
theorem x7_takeTurn_l {E : am_E} {d : Nat} {h : Hp} {r n tu : Nat} {m : Int} {kr : Nat → Nat} {T S C : Nat → Int} {K F : Nat → Int}  (R : RailAt h r n m (tu : Int) kr T S C) (hg : Rng n T S C) (kk : KOK h r (r + 9) n kr K F) (hB : E.2 ≤ r) (htu : tu ≤ n)  : ∀ (k : Nat) (p : Nat) (v2 v3 : Value), p + k = n → Ex E (d + 5) mX7_takeTurn 2 [.ref r, .int (i32 (p : Int)), v2, v3] [] h (fun r1 h1 => r1 = some (.int (i32 (match nx S n tu p k with | none => -4 | some c => twc K F (m, tu, T, S, C) c))) ∧ (match nx S n tu p k with | none => h1 = h | some c => RailX h1 r n kr (tsc K F n (m, tu, T, S, C) c)) ∧ Fr h h1 r (r + 9)) := by
  obtain ⟨hr, hA, hP, hG, hn6⟩ := id R
  intro k
  induction k with
  | zero =>
    intro p v2 v3 hk
    refine Ex_iload_n dX7_takeTurn_2 rfl rfl ?_
    refine Ex_aload_n dX7_takeTurn_3 rfl rfl ?_
    refine Ex_getf dX7_takeTurn_4 rfl (by first | exact hr | exact hA | exact hP _ (by omega)) rfl rfl rfl ?_
    refine Ex_icmp_ge (t := 74) dX7_takeTurn_7 rfl rfl (by omega) (fun c7 => ?_) (fun c7 => absurd c7 (by omega))
    refine Ex_bipush dX7_takeTurn_74 rfl (by decide) ?_
    refine Ex_iret dX7_takeTurn_76 rfl rfl ?_
    exact ⟨rfl, rfl, Fr.rf _ _ _⟩
  | succ k ih =>
    intro p v2 v3 hk
    have hn0 : 0 < n := by omega
    obtain ⟨c, hcd⟩ : ∃ c, c = (tu + p) % n := ⟨_, rfl⟩
    have hcn : c < n := by rw [hcd]; exact Nat.mod_lt _ hn0
    have hmod : ((tu : Int) + (p : Int)) % (n : Int) = (c : Int) := by rw [hcd]; rfl
    have hgc := hg c hcn
    have enx : nx S n tu p (k + 1) = if S c < 7 then some c else nx S n tu (p + 1) k := by rw [hcd]; rfl
    by_cases q1 : S c < 7
    rotate_left
    rotate_left
    by_cases q2 : sp_needs (K c) (F c) (S c) ≤ T c
    rotate_left
    rotate_left
    · refine Ex_iload_n dX7_takeTurn_2 rfl rfl ?_
      refine Ex_aload_n dX7_takeTurn_3 rfl rfl ?_
      refine Ex_getf dX7_takeTurn_4 rfl (by first | exact hr | exact hA | exact hP _ (by omega)) rfl rfl rfl ?_
      refine Ex_icmp_ge (t := 74) dX7_takeTurn_7 rfl rfl (by omega) (fun c7 => absurd c7 (by omega)) (fun c7 => ?_)
      refine Ex_aload_n dX7_takeTurn_10 rfl rfl ?_
      refine Ex_getf dX7_takeTurn_11 rfl (by first | exact hr | exact hA | exact hP _ (by omega)) rfl rfl rfl ?_
      refine Ex_iload_n dX7_takeTurn_14 rfl rfl ?_
      refine Ex_iadd dX7_takeTurn_15 rfl ?_
      refine Ex_aload_n dX7_takeTurn_16 rfl rfl ?_
      refine Ex_getf dX7_takeTurn_17 rfl (by first | exact hr | exact hA | exact hP _ (by omega)) rfl rfl rfl ?_
      refine Ex_irem dX7_takeTurn_20 rfl (by omega) (by omega) ?_
      rw [hmod]
      refine Ex_istore_n (L2 := [_, _, _, _]) dX7_takeTurn_21 rfl rfl rfl ?_
      refine Ex_aload_n dX7_takeTurn_22 rfl rfl ?_
      refine Ex_getf dX7_takeTurn_23 rfl (by first | exact hr | exact hA | exact hP _ (by omega)) rfl rfl rfl ?_
      refine Ex_iload_n dX7_takeTurn_26 rfl rfl ?_
      refine Ex_aald dX7_takeTurn_27 rfl (by first | exact hr | exact hA | exact hP _ (by omega)) (by omega) (by omega) (rarr_get (by omega)) ?_
      refine Ex_inv 2 dX7_takeTurn_28 rfl rfl (Or.inl rfl) rfl rfl rfl rfl (hP c hcn) rfl rfl rfl (Ex_post (x5_swims (hP c hcn) hgc.2.1) ?_)
      rintro _ _ ⟨rfl, e0⟩
      obtain rfl := Eq.symm e0
      refine Ex_if_ne (t := 68) dX7_takeTurn_31 rfl rfl (by omega) (fun c31 => ?_) (fun c31 => absurd c31 (by omega))
      refine Ex_iinc (L2 := [_, _, _, _]) dX7_takeTurn_68 rfl rfl rfl ?_
      refine Ex_goto (t := 2) dX7_takeTurn_71 rfl ?_
      rw [enx, if_neg q1]
      exact ih (p + 1) _ _ (by omega)
    · refine Ex_iload_n dX7_takeTurn_2 rfl rfl ?_
      refine Ex_aload_n dX7_takeTurn_3 rfl rfl ?_
      refine Ex_getf dX7_takeTurn_4 rfl (by first | exact hr | exact hA | exact hP _ (by omega)) rfl rfl rfl ?_
      refine Ex_icmp_ge (t := 74) dX7_takeTurn_7 rfl rfl (by omega) (fun c7 => absurd c7 (by omega)) (fun c7 => ?_)
      refine Ex_aload_n dX7_takeTurn_10 rfl rfl ?_
      refine Ex_getf dX7_takeTurn_11 rfl (by first | exact hr | exact hA | exact hP _ (by omega)) rfl rfl rfl ?_
      refine Ex_iload_n dX7_takeTurn_14 rfl rfl ?_
      refine Ex_iadd dX7_takeTurn_15 rfl ?_
      refine Ex_aload_n dX7_takeTurn_16 rfl rfl ?_
      refine Ex_getf dX7_takeTurn_17 rfl (by first | exact hr | exact hA | exact hP _ (by omega)) rfl rfl rfl ?_
      refine Ex_irem dX7_takeTurn_20 rfl (by omega) (by omega) ?_
      rw [hmod]
      refine Ex_istore_n (L2 := [_, _, _, _]) dX7_takeTurn_21 rfl rfl rfl ?_
      refine Ex_aload_n dX7_takeTurn_22 rfl rfl ?_
      refine Ex_getf dX7_takeTurn_23 rfl (by first | exact hr | exact hA | exact hP _ (by omega)) rfl rfl rfl ?_
      refine Ex_iload_n dX7_takeTurn_26 rfl rfl ?_
      refine Ex_aald dX7_takeTurn_27 rfl (by first | exact hr | exact hA | exact hP _ (by omega)) (by omega) (by omega) (rarr_get (by omega)) ?_
      refine Ex_inv 2 dX7_takeTurn_28 rfl rfl (Or.inl rfl) rfl rfl rfl rfl (hP c hcn) rfl rfl rfl (Ex_post (x5_swims (hP c hcn) hgc.2.1) ?_)
      rintro _ _ ⟨rfl, e0⟩
      obtain rfl := Eq.symm e0
      refine Ex_if_ne (t := 68) dX7_takeTurn_31 rfl rfl (by omega) (fun c31 => absurd c31 (by omega)) (fun c31 => ?_)
      refine Ex_aload_n dX7_takeTurn_34 rfl rfl ?_
      refine Ex_getf dX7_takeTurn_35 rfl (by first | exact hr | exact hA | exact hP _ (by omega)) rfl rfl rfl ?_
      refine Ex_iload_n dX7_takeTurn_38 rfl rfl ?_
      refine Ex_aald dX7_takeTurn_39 rfl (by first | exact hr | exact hA | exact hP _ (by omega)) (by omega) (by omega) (rarr_get (by omega)) ?_
      refine Ex_inv 2 dX7_takeTurn_40 rfl rfl (Or.inl rfl) rfl rfl rfl rfl (hP c hcn) rfl rfl rfl (Ex_post (x5_isReady (hP c hcn) hgc.1 hgc.2.1 (kk c hcn).1) ?_)
      rintro _ _ ⟨rfl, e0⟩
      obtain rfl := Eq.symm e0
      refine Ex_if_eq (t := 50) dX7_takeTurn_43 rfl rfl (by omega) (fun c43 => absurd c43 (by omega)) (fun c43 => ?_)
      refine Ex_iconst dX7_takeTurn_46 rfl ?_
      refine Ex_goto (t := 51) dX7_takeTurn_47 rfl ?_
      refine Ex_istore_n (L2 := [_, _, _, _]) dX7_takeTurn_51 rfl rfl rfl ?_
      refine Ex_aload_n dX7_takeTurn_52 rfl rfl ?_
      refine Ex_iload_n dX7_takeTurn_53 rfl rfl ?_
      refine Ex_iload_n dX7_takeTurn_54 rfl rfl ?_
      refine Ex_inv 2 dX7_takeTurn_55 rfl rfl (Or.inl rfl) rfl rfl rfl rfl hr rfl rfl rfl (Ex_post (x7_take R hg kk hB hcn q1 (by omega)) ?_)
      rintro _ _ ⟨rfl, R2, f2⟩
      obtain ⟨hr2, -⟩ := id R2
      refine Ex_pop dX7_takeTurn_58 rfl rfl ?_
      refine Ex_aload_n dX7_takeTurn_59 rfl rfl ?_
      refine Ex_iload_n dX7_takeTurn_60 rfl rfl ?_
      refine Ex_iconst dX7_takeTurn_61 rfl ?_
      refine Ex_iadd dX7_takeTurn_62 rfl ?_
      refine Ex_putf (fs2 := [_, _, _, _, _]) dX7_takeTurn_63 rfl hr2 rfl rfl rfl rfl rfl (by omega) rfl ?_
      try rw [am_put2]
      refine Ex_iload_n dX7_takeTurn_66 rfl rfl ?_
      refine Ex_iret dX7_takeTurn_67 rfl rfl ?_
      rw [enx, if_pos q1]
      have ew : twc K F (m, tu, T, S, C) c = 2 := by unfold twc; rw [if_pos q2]
      refine ⟨ri (by dsimp only; rw [ew]), ?_, f2.trans (Fr.put _ (by omega))⟩
      show RailAt _ r n _ _ kr _ _ _
      simp only [tsc, ew]
      exact R2.own
    · refine Ex_iload_n dX7_takeTurn_2 rfl rfl ?_
      refine Ex_aload_n dX7_takeTurn_3 rfl rfl ?_
      refine Ex_getf dX7_takeTurn_4 rfl (by first | exact hr | exact hA | exact hP _ (by omega)) rfl rfl rfl ?_
      refine Ex_icmp_ge (t := 74) dX7_takeTurn_7 rfl rfl (by omega) (fun c7 => absurd c7 (by omega)) (fun c7 => ?_)
      refine Ex_aload_n dX7_takeTurn_10 rfl rfl ?_
      refine Ex_getf dX7_takeTurn_11 rfl (by first | exact hr | exact hA | exact hP _ (by omega)) rfl rfl rfl ?_
      refine Ex_iload_n dX7_takeTurn_14 rfl rfl ?_
      refine Ex_iadd dX7_takeTurn_15 rfl ?_
      refine Ex_aload_n dX7_takeTurn_16 rfl rfl ?_
      refine Ex_getf dX7_takeTurn_17 rfl (by first | exact hr | exact hA | exact hP _ (by omega)) rfl rfl rfl ?_
      refine Ex_irem dX7_takeTurn_20 rfl (by omega) (by omega) ?_
      rw [hmod]
      refine Ex_istore_n (L2 := [_, _, _, _]) dX7_takeTurn_21 rfl rfl rfl ?_
      refine Ex_aload_n dX7_takeTurn_22 rfl rfl ?_
      refine Ex_getf dX7_takeTurn_23 rfl (by first | exact hr | exact hA | exact hP _ (by omega)) rfl rfl rfl ?_
      refine Ex_iload_n dX7_takeTurn_26 rfl rfl ?_
      refine Ex_aald dX7_takeTurn_27 rfl (by first | exact hr | exact hA | exact hP _ (by omega)) (by omega) (by omega) (rarr_get (by omega)) ?_
      refine Ex_inv 2 dX7_takeTurn_28 rfl rfl (Or.inl rfl) rfl rfl rfl rfl (hP c hcn) rfl rfl rfl (Ex_post (x5_swims (hP c hcn) hgc.2.1) ?_)
      rintro _ _ ⟨rfl, e0⟩
      obtain rfl := Eq.symm e0
      refine Ex_if_ne (t := 68) dX7_takeTurn_31 rfl rfl (by omega) (fun c31 => absurd c31 (by omega)) (fun c31 => ?_)
      refine Ex_aload_n dX7_takeTurn_34 rfl rfl ?_
      refine Ex_getf dX7_takeTurn_35 rfl (by first | exact hr | exact hA | exact hP _ (by omega)) rfl rfl rfl ?_
      refine Ex_iload_n dX7_takeTurn_38 rfl rfl ?_
      refine Ex_aald dX7_takeTurn_39 rfl (by first | exact hr | exact hA | exact hP _ (by omega)) (by omega) (by omega) (rarr_get (by omega)) ?_
      refine Ex_inv 2 dX7_takeTurn_40 rfl rfl (Or.inl rfl) rfl rfl rfl rfl (hP c hcn) rfl rfl rfl (Ex_post (x5_isReady (hP c hcn) hgc.1 hgc.2.1 (kk c hcn).1) ?_)
      rintro _ _ ⟨rfl, e0⟩
      obtain rfl := Eq.symm e0
      refine Ex_if_eq (t := 50) dX7_takeTurn_43 rfl rfl (by omega) (fun c43 => ?_) (fun c43 => absurd c43 (by omega))
      refine Ex_iconst dX7_takeTurn_50 rfl ?_
      refine Ex_istore_n (L2 := [_, _, _, _]) dX7_takeTurn_51 rfl rfl rfl ?_
      refine Ex_aload_n dX7_takeTurn_52 rfl rfl ?_
      refine Ex_iload_n dX7_takeTurn_53 rfl rfl ?_
      refine Ex_iload_n dX7_takeTurn_54 rfl rfl ?_
      refine Ex_inv 2 dX7_takeTurn_55 rfl rfl (Or.inl rfl) rfl rfl rfl rfl hr rfl rfl rfl (Ex_post (x7_take R hg kk hB hcn q1 (by omega)) ?_)
      rintro _ _ ⟨rfl, R2, f2⟩
      obtain ⟨hr2, -⟩ := id R2
      refine Ex_pop dX7_takeTurn_58 rfl rfl ?_
      refine Ex_aload_n dX7_takeTurn_59 rfl rfl ?_
      refine Ex_iload_n dX7_takeTurn_60 rfl rfl ?_
      refine Ex_iconst dX7_takeTurn_61 rfl ?_
      refine Ex_iadd dX7_takeTurn_62 rfl ?_
      refine Ex_putf (fs2 := [_, _, _, _, _]) dX7_takeTurn_63 rfl hr2 rfl rfl rfl rfl rfl (by omega) rfl ?_
      try rw [am_put2]
      refine Ex_iload_n dX7_takeTurn_66 rfl rfl ?_
      refine Ex_iret dX7_takeTurn_67 rfl rfl ?_
      rw [enx, if_pos q1]
      have ew : twc K F (m, tu, T, S, C) c = 0 := by unfold twc; rw [if_neg q2]
      refine ⟨ri (by dsimp only; rw [ew]), ?_, f2.trans (Fr.put _ (by omega))⟩
      show RailAt _ r n _ _ kr _ _ _
      simp only [tsc, ew]
      exact R2.own
theorem x7_takeTurn {E : am_E} {d : Nat} {h : Hp} {r n : Nat} {kr : Nat → Nat} {x : TS} {K F : Nat → Int} (R : RailX h r n kr x) (hg : RngX n x) (kk : KOK h r (r + 9) n kr K F) (hB : E.2 ≤ r) (htu : x.2.1 ≤ n) : Ex E (d + 5) mX7_takeTurn 0 [.ref r, .retAddr 0, .retAddr 0, .retAddr 0] [] h (fun r1 h1 => r1 = some (.int (i32 (tw K F n x))) ∧ RailX h1 r n kr (tst K F n x) ∧ Fr h h1 r (r + 9)) := by
  obtain ⟨m, tu, T, S, C⟩ := x
  refine Ex_iconst dX7_takeTurn_0 rfl ?_
  refine Ex_istore_n (L2 := [_, _, _, _]) dX7_takeTurn_1 rfl rfl rfl ?_
  refine Ex_post (x7_takeTurn_l R hg kk hB htu n 0 _ _ (by omega)) ?_
  rintro _ _ ⟨rfl, h2, h3⟩
  unfold tw tst
  dsimp only at h2 ⊢
  cases hx : nx S n tu 0 n with
  | none => rw [hx] at h2; dsimp only at h2 ⊢; subst h2; exact ⟨rfl, R, h3⟩
  | some c => rw [hx] at h2; dsimp only at h2 ⊢; exact ⟨rfl, h2, h3⟩
