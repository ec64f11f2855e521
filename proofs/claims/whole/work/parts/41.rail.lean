/-! Rail: reads (by program: wip/whole/spec_b.py) -/

theorem x7_has {E : am_E} {d : Nat} {h : Hp} {r n : Nat} {m tu : Int} {kr : Nat → Nat} {T S C : Nat → Int} {c : Int}  (R : RailAt h r n m tu kr T S C) (hc : (-2147483648 ≤ c ∧ c ≤ 2147483647)) : Ex E (d + 1) mX7_has 0 [.ref r, .int (i32 c)] [] h (fun r1 h1 => r1 = some (.int (i32 (if 0 ≤ c ∧ c < (n : Int) then 1 else 0))) ∧ h1 = h) := by
  obtain ⟨hr, hA, hP, hG, hn6⟩ := id R
  refine Ex_iload_n dX7_has_0 rfl rfl ?_
  refine Ex_iconst dX7_has_1 rfl ?_
  refine Ex_aload_n dX7_has_2 rfl rfl ?_
  refine Ex_getf dX7_has_3 rfl (by first | exact hr | exact hA | exact hP _ (by omega)) rfl rfl rfl ?_
  refine Ex_iconst dX7_has_6 rfl ?_
  refine Ex_isub dX7_has_7 rfl ?_
  refine Ex_stat 1 dX7_has_8 rfl rfl (Or.inr rfl) rfl rfl rfl rfl rfl rfl (Ex_post (x11_within (by omega)) ?_)
  rintro _ _ ⟨rfl, rfl⟩
  refine Ex_iret dX7_has_11 rfl (by (repeat' split) <;> rfl) ?_
  first | exact ⟨ri (by first | rfl | omega | rw [if_pos (by omega)] | rw [if_neg (by omega)]), rfl⟩

theorem x7_hasTwo {E : am_E} {d : Nat} {h : Hp} {r n : Nat} {m tu : Int} {kr : Nat → Nat} {T S C : Nat → Int} {a b : Int}  (R : RailAt h r n m tu kr T S C) (ha : (-2147483648 ≤ a ∧ a ≤ 2147483647)) (hb : (-2147483648 ≤ b ∧ b ≤ 2147483647)) : Ex E (d + 2) mX7_hasTwo 0 [.ref r, .int (i32 a), .int (i32 b)] [] h (fun r1 h1 => r1 = some (.int (i32 (if (0 ≤ a ∧ a < (n : Int)) ∧ (0 ≤ b ∧ b < (n : Int)) ∧ a ≠ b then 1 else 0))) ∧ h1 = h) := by
  obtain ⟨hr, hA, hP, hG, hn6⟩ := id R
  refine Ex_aload_n dX7_hasTwo_0 rfl rfl ?_
  refine Ex_iload_n dX7_hasTwo_1 rfl rfl ?_
  refine Ex_inv 2 dX7_hasTwo_2 rfl rfl (Or.inl rfl) rfl rfl rfl rfl (by first | exact hr | exact hA | exact hP _ (by omega)) rfl rfl rfl (Ex_post (x7_has R ha) ?_)
  rintro _ _ ⟨rfl, rfl⟩
  refine Ex_if_eq (t := 25) dX7_hasTwo_5 rfl rfl (by omega) (fun c5 => ?_) (fun c5 => ?_)
  · refine Ex_iconst dX7_hasTwo_25 rfl ?_
    refine Ex_iret dX7_hasTwo_26 rfl rfl ?_
    first | exact ⟨ri (by first | rfl | omega | rw [if_pos (by omega)] | rw [if_neg (by omega)]), rfl⟩
  · refine Ex_aload_n dX7_hasTwo_8 rfl rfl ?_
    refine Ex_iload_n dX7_hasTwo_9 rfl rfl ?_
    refine Ex_inv 2 dX7_hasTwo_10 rfl rfl (Or.inl rfl) rfl rfl rfl rfl (by first | exact hr | exact hA | exact hP _ (by omega)) rfl rfl rfl (Ex_post (x7_has R hb) ?_)
    rintro _ _ ⟨rfl, rfl⟩
    refine Ex_if_eq (t := 25) dX7_hasTwo_13 rfl rfl (by omega) (fun c13 => ?_) (fun c13 => ?_)
    · refine Ex_iconst dX7_hasTwo_25 rfl ?_
      refine Ex_iret dX7_hasTwo_26 rfl rfl ?_
      first | exact ⟨ri (by first | rfl | omega | rw [if_pos (by omega)] | rw [if_neg (by omega)]), rfl⟩
    · refine Ex_iload_n dX7_hasTwo_16 rfl rfl ?_
      refine Ex_iload_n dX7_hasTwo_17 rfl rfl ?_
      refine Ex_icmp_eq (t := 25) dX7_hasTwo_18 rfl rfl (by omega) (fun c18 => ?_) (fun c18 => ?_)
      · refine Ex_iconst dX7_hasTwo_25 rfl ?_
        refine Ex_iret dX7_hasTwo_26 rfl rfl ?_
        first | exact ⟨ri (by first | rfl | omega | rw [if_pos (by omega)] | rw [if_neg (by omega)]), rfl⟩
      · refine Ex_iconst dX7_hasTwo_21 rfl ?_
        refine Ex_goto (t := 26) dX7_hasTwo_22 rfl ?_
        refine Ex_iret dX7_hasTwo_26 rfl rfl ?_
        first | exact ⟨ri (by first | rfl | omega | rw [if_pos (by omega)] | rw [if_neg (by omega)]), rfl⟩

theorem x7_hasRoom {E : am_E} {d : Nat} {h : Hp} {r n : Nat} {m tu : Int} {kr : Nat → Nat} {T S C : Nat → Int}  (R : RailAt h r n m tu kr T S C)  : Ex E d mX7_hasRoom 0 [.ref r] [] h (fun r1 h1 => r1 = some (.int (i32 (if n < 6 then 1 else 0))) ∧ h1 = h) := by
  obtain ⟨hr, hA, hP, hG, hn6⟩ := id R
  refine Ex_aload_n dX7_hasRoom_0 rfl rfl ?_
  refine Ex_getf dX7_hasRoom_1 rfl (by first | exact hr | exact hA | exact hP _ (by omega)) rfl rfl rfl ?_
  refine Ex_aload_n dX7_hasRoom_4 rfl rfl ?_
  refine Ex_getf dX7_hasRoom_5 rfl (by first | exact hr | exact hA | exact hP _ (by omega)) rfl rfl rfl ?_
  refine Ex_alen (n := 6) dX7_hasRoom_8 rfl (by first | exact hr | exact hA | exact hP _ (by omega)) (by omega) rfl ?_
  refine Ex_icmp_ge (t := 16) dX7_hasRoom_9 rfl rfl (by omega) (fun c9 => ?_) (fun c9 => ?_)
  · refine Ex_iconst dX7_hasRoom_16 rfl ?_
    refine Ex_iret dX7_hasRoom_17 rfl rfl ?_
    first | exact ⟨ri (by first | rfl | omega | rw [if_pos (by omega)] | rw [if_neg (by omega)]), rfl⟩
  · refine Ex_iconst dX7_hasRoom_12 rfl ?_
    refine Ex_goto (t := 17) dX7_hasRoom_13 rfl ?_
    refine Ex_iret dX7_hasRoom_17 rfl rfl ?_
    first | exact ⟨ri (by first | rfl | omega | rw [if_pos (by omega)] | rw [if_neg (by omega)]), rfl⟩

theorem x7_neighbours {E : am_E} {d : Nat} {h : Hp} {r n : Nat} {m tu : Int} {kr : Nat → Nat} {T S C : Nat → Int} {c : Nat}  (R : RailAt h r n m tu kr T S C) (hc : c < n) : Ex E (d + 2) mX7_neighbours 0 [.ref r, .int (i32 (c : Int))] [] h (fun r1 h1 => r1 = some (.int (i32 ((if 0 < c then 1 else 0) + (if c + 1 < n then 1 else 0)))) ∧ h1 = h) := by
  obtain ⟨hr, hA, hP, hG, hn6⟩ := id R
  refine Ex_aload_n dX7_neighbours_0 rfl rfl ?_
  refine Ex_iload_n dX7_neighbours_1 rfl rfl ?_
  refine Ex_iconst dX7_neighbours_2 rfl ?_
  refine Ex_isub dX7_neighbours_3 rfl ?_
  refine Ex_inv 2 dX7_neighbours_4 rfl rfl (Or.inl rfl) rfl rfl rfl rfl (by first | exact hr | exact hA | exact hP _ (by omega)) rfl rfl rfl (Ex_post (x7_has R (by omega)) ?_)
  rintro _ _ ⟨rfl, rfl⟩
  refine Ex_if_eq (t := 14) dX7_neighbours_7 rfl rfl (by omega) (fun c7 => ?_) (fun c7 => ?_)
  · refine Ex_iconst dX7_neighbours_14 rfl ?_
    refine Ex_aload_n dX7_neighbours_15 rfl rfl ?_
    refine Ex_iload_n dX7_neighbours_16 rfl rfl ?_
    refine Ex_iconst dX7_neighbours_17 rfl ?_
    refine Ex_iadd dX7_neighbours_18 rfl ?_
    refine Ex_inv 2 dX7_neighbours_19 rfl rfl (Or.inl rfl) rfl rfl rfl rfl (by first | exact hr | exact hA | exact hP _ (by omega)) rfl rfl rfl (Ex_post (x7_has R (by omega)) ?_)
    rintro _ _ ⟨rfl, rfl⟩
    refine Ex_if_eq (t := 29) dX7_neighbours_22 rfl rfl (by omega) (fun c22 => ?_) (fun c22 => ?_)
    · refine Ex_iconst dX7_neighbours_29 rfl ?_
      refine Ex_iadd dX7_neighbours_30 rfl ?_
      refine Ex_iret dX7_neighbours_31 rfl rfl ?_
      first | exact ⟨ri (by first | rfl | omega | rw [if_pos (by omega)] | rw [if_neg (by omega)]), rfl⟩
    · refine Ex_iconst dX7_neighbours_25 rfl ?_
      refine Ex_goto (t := 30) dX7_neighbours_26 rfl ?_
      refine Ex_iadd dX7_neighbours_30 rfl ?_
      refine Ex_iret dX7_neighbours_31 rfl rfl ?_
      first | exact ⟨ri (by first | rfl | omega | rw [if_pos (by omega)] | rw [if_neg (by omega)]), rfl⟩
  · refine Ex_iconst dX7_neighbours_10 rfl ?_
    refine Ex_goto (t := 15) dX7_neighbours_11 rfl ?_
    refine Ex_aload_n dX7_neighbours_15 rfl rfl ?_
    refine Ex_iload_n dX7_neighbours_16 rfl rfl ?_
    refine Ex_iconst dX7_neighbours_17 rfl ?_
    refine Ex_iadd dX7_neighbours_18 rfl ?_
    refine Ex_inv 2 dX7_neighbours_19 rfl rfl (Or.inl rfl) rfl rfl rfl rfl (by first | exact hr | exact hA | exact hP _ (by omega)) rfl rfl rfl (Ex_post (x7_has R (by omega)) ?_)
    rintro _ _ ⟨rfl, rfl⟩
    refine Ex_if_eq (t := 29) dX7_neighbours_22 rfl rfl (by omega) (fun c22 => ?_) (fun c22 => ?_)
    · refine Ex_iconst dX7_neighbours_29 rfl ?_
      refine Ex_iadd dX7_neighbours_30 rfl ?_
      refine Ex_iret dX7_neighbours_31 rfl rfl ?_
      first | exact ⟨ri (by first | rfl | omega | rw [if_pos (by omega)] | rw [if_neg (by omega)]), rfl⟩
    · refine Ex_iconst dX7_neighbours_25 rfl ?_
      refine Ex_goto (t := 30) dX7_neighbours_26 rfl ?_
      refine Ex_iadd dX7_neighbours_30 rfl ?_
      refine Ex_iret dX7_neighbours_31 rfl rfl ?_
      first | exact ⟨ri (by first | rfl | omega | rw [if_pos (by omega)] | rw [if_neg (by omega)]), rfl⟩

theorem x7_canTake {E : am_E} {d : Nat} {h : Hp} {r n : Nat} {m tu : Int} {kr : Nat → Nat} {T S C : Nat → Int} {c way : Int}  (R : RailAt h r n m tu kr T S C) (hg : Rng n T S C) (hc : (-2147483648 ≤ c ∧ c ≤ 2147483647)) (hw : (-2147483648 ≤ way ∧ way ≤ 2147483647)) : Ex E (d + 2) mX7_canTake 0 [.ref r, .int (i32 c), .int (i32 way)] [] h (fun r1 h1 => r1 = some (.int (i32 (if (0 ≤ c ∧ c < (n : Int)) ∧ S c.toNat < 7 ∧ (0 ≤ way ∧ way ≤ 3) then 1 else 0))) ∧ h1 = h) := by
  obtain ⟨hr, hA, hP, hG, hn6⟩ := id R
  refine Ex_aload_n dX7_canTake_0 rfl rfl ?_
  refine Ex_iload_n dX7_canTake_1 rfl rfl ?_
  refine Ex_inv 2 dX7_canTake_2 rfl rfl (Or.inl rfl) rfl rfl rfl rfl (by first | exact hr | exact hA | exact hP _ (by omega)) rfl rfl rfl (Ex_post (x7_has R hc) ?_)
  rintro _ _ ⟨rfl, rfl⟩
  refine Ex_if_eq (t := 33) dX7_canTake_5 rfl rfl (by omega) (fun c5 => ?_) (fun c5 => ?_)
  · refine Ex_iconst dX7_canTake_33 rfl ?_
    refine Ex_iret dX7_canTake_34 rfl rfl ?_
    first | exact ⟨ri (by first | rfl | omega | rw [if_pos (by omega)] | rw [if_neg (by omega)]), rfl⟩
  · have hgc := hg c.toNat (by omega)
    refine Ex_aload_n dX7_canTake_8 rfl rfl ?_
    refine Ex_getf dX7_canTake_9 rfl (by first | exact hr | exact hA | exact hP _ (by omega)) rfl rfl rfl ?_
    refine Ex_iload_n dX7_canTake_12 rfl rfl ?_
    refine Ex_aald dX7_canTake_13 rfl (by first | exact hr | exact hA | exact hP _ (by omega)) (by omega) (by omega) (by have e := rarr_get (r := r) (c := c.toNat) (by omega); rw [show ((c.toNat : Nat) : Int) = c by omega] at e; exact e) ?_
    refine Ex_inv 2 dX7_canTake_14 rfl rfl (Or.inl rfl) rfl rfl rfl rfl (hP c.toNat (by omega)) rfl rfl rfl (Ex_post (x5_swims (hP c.toNat (by omega)) (hg c.toNat (by omega)).2.1) ?_)
    rintro _ _ ⟨rfl, rfl⟩
    refine Ex_if_ne (t := 33) dX7_canTake_17 rfl rfl (by omega) (fun c17 => ?_) (fun c17 => ?_)
    · refine Ex_iconst dX7_canTake_33 rfl ?_
      refine Ex_iret dX7_canTake_34 rfl rfl ?_
      first | exact ⟨ri (by first | rfl | omega | rw [if_pos (by omega)] | rw [if_neg (by omega)]), rfl⟩
    · refine Ex_iload_n dX7_canTake_20 rfl rfl ?_
      refine Ex_iconst dX7_canTake_21 rfl ?_
      refine Ex_iconst dX7_canTake_22 rfl ?_
      refine Ex_stat 1 dX7_canTake_23 rfl rfl (Or.inr rfl) rfl rfl rfl rfl rfl rfl (Ex_post (x11_within (by omega)) ?_)
      rintro _ _ ⟨rfl, rfl⟩
      refine Ex_if_eq (t := 33) dX7_canTake_26 rfl rfl (by omega) (fun c26 => ?_) (fun c26 => ?_)
      · refine Ex_iconst dX7_canTake_33 rfl ?_
        refine Ex_iret dX7_canTake_34 rfl rfl ?_
        first | exact ⟨ri (by first | rfl | omega | rw [if_pos (by omega)] | rw [if_neg (by omega)]), rfl⟩
      · refine Ex_iconst dX7_canTake_29 rfl ?_
        refine Ex_goto (t := 34) dX7_canTake_30 rfl ?_
        refine Ex_iret dX7_canTake_34 rfl rfl ?_
        first | exact ⟨ri (by first | rfl | omega | rw [if_pos (by omega)] | rw [if_neg (by omega)]), rfl⟩
theorem x7_allTrust_l {E : am_E} {d : Nat} {h : Hp} {r n : Nat} {m tu : Int} {kr : Nat → Nat} {T S C : Nat → Int}  (R : RailAt h r n m tu kr T S C) (hg : Rng n T S C) : ∀ (k : Nat) (c : Nat) (a : Int), c + k = n → 0 ≤ a ∧ a ≤ 20 * c → Ex E d mX7_allTrust 4 [.ref r, .int (i32 a), .int (i32 (c : Int))] [] h (fun r1 h1 => r1 = some (.int (i32 (a + sm T c k))) ∧ h1 = h) := by
  obtain ⟨hr, hA, hP, hG, hn6⟩ := id R
  intro k
  induction k with
  | zero =>
    intro c a hk ha
    refine Ex_iload_n dX7_allTrust_4 rfl rfl ?_
    refine Ex_aload_n dX7_allTrust_5 rfl rfl ?_
    refine Ex_getf dX7_allTrust_6 rfl (by first | exact hr | exact hA | exact hP _ (by omega)) rfl rfl rfl ?_
    refine Ex_icmp_ge (t := 30) dX7_allTrust_9 rfl rfl (by omega) (fun c9 => ?_) (fun c9 => absurd c9 (by omega))
    refine Ex_iload_n dX7_allTrust_30 rfl rfl ?_
    refine Ex_iret dX7_allTrust_31 rfl rfl ?_
    exact ⟨ri (by unfold sm; omega), rfl⟩
  | succ k ih =>
    intro c a hk ha
    have hgc := hg c (by omega)
    refine Ex_iload_n dX7_allTrust_4 rfl rfl ?_
    refine Ex_aload_n dX7_allTrust_5 rfl rfl ?_
    refine Ex_getf dX7_allTrust_6 rfl (by first | exact hr | exact hA | exact hP _ (by omega)) rfl rfl rfl ?_
    refine Ex_icmp_ge (t := 30) dX7_allTrust_9 rfl rfl (by omega) (fun c9 => absurd c9 (by omega)) (fun c9 => ?_)
    refine Ex_iload_n dX7_allTrust_12 rfl rfl ?_
    refine Ex_aload_n dX7_allTrust_13 rfl rfl ?_
    refine Ex_getf dX7_allTrust_14 rfl (by first | exact hr | exact hA | exact hP _ (by omega)) rfl rfl rfl ?_
    refine Ex_iload_n dX7_allTrust_17 rfl rfl ?_
    refine Ex_aald dX7_allTrust_18 rfl (by first | exact hr | exact hA | exact hP _ (by omega)) (by omega) (by omega) (rarr_get (by omega)) ?_
    refine Ex_getf dX7_allTrust_19 rfl (by first | exact hr | exact hA | exact hP _ (by omega)) rfl rfl rfl ?_
    refine Ex_iadd dX7_allTrust_22 rfl ?_
    refine Ex_istore_n (L2 := [_, _, _]) dX7_allTrust_23 rfl rfl rfl ?_
    refine Ex_iinc (L2 := [_, _, _]) dX7_allTrust_24 rfl rfl rfl ?_
    refine Ex_goto (t := 4) dX7_allTrust_27 rfl ?_
    refine Ex_post (ih (c + 1) _ (by omega) ⟨by omega, by omega⟩) ?_
    rintro _ _ ⟨rfl, rfl⟩
    exact ⟨ri (by rw [show sm T c (k + 1) = T c + sm T (c + 1) k from rfl]; omega), rfl⟩

theorem x7_allTrust {E : am_E} {d : Nat} {h : Hp} {r n : Nat} {m tu : Int} {kr : Nat → Nat} {T S C : Nat → Int}  (R : RailAt h r n m tu kr T S C) (hg : Rng n T S C) : Ex E d mX7_allTrust 0 [.ref r, .retAddr 0, .retAddr 0] [] h (fun r1 h1 => r1 = some (.int (i32 (sm T 0 n))) ∧ h1 = h) := by
  refine Ex_iconst dX7_allTrust_0 rfl ?_
  refine Ex_istore_n (L2 := [_, _, _]) dX7_allTrust_1 rfl rfl rfl ?_
  refine Ex_iconst dX7_allTrust_2 rfl ?_
  refine Ex_istore_n (L2 := [_, _, _]) dX7_allTrust_3 rfl rfl rfl ?_
  refine Ex_post (x7_allTrust_l R hg n 0 0 (by omega) (by omega)) ?_
  rintro _ _ ⟨rfl, rfl⟩
  exact ⟨ri (by omega), rfl⟩
theorem x7_allSteps_l {E : am_E} {d : Nat} {h : Hp} {r n : Nat} {m tu : Int} {kr : Nat → Nat} {T S C : Nat → Int}  (R : RailAt h r n m tu kr T S C) (hg : Rng n T S C) : ∀ (k : Nat) (c : Nat) (a : Int), c + k = n → 0 ≤ a ∧ a ≤ 20 * c → Ex E d mX7_allSteps 4 [.ref r, .int (i32 a), .int (i32 (c : Int))] [] h (fun r1 h1 => r1 = some (.int (i32 (a + sm S c k))) ∧ h1 = h) := by
  obtain ⟨hr, hA, hP, hG, hn6⟩ := id R
  intro k
  induction k with
  | zero =>
    intro c a hk ha
    refine Ex_iload_n dX7_allSteps_4 rfl rfl ?_
    refine Ex_aload_n dX7_allSteps_5 rfl rfl ?_
    refine Ex_getf dX7_allSteps_6 rfl (by first | exact hr | exact hA | exact hP _ (by omega)) rfl rfl rfl ?_
    refine Ex_icmp_ge (t := 30) dX7_allSteps_9 rfl rfl (by omega) (fun c9 => ?_) (fun c9 => absurd c9 (by omega))
    refine Ex_iload_n dX7_allSteps_30 rfl rfl ?_
    refine Ex_iret dX7_allSteps_31 rfl rfl ?_
    exact ⟨ri (by unfold sm; omega), rfl⟩
  | succ k ih =>
    intro c a hk ha
    have hgc := hg c (by omega)
    refine Ex_iload_n dX7_allSteps_4 rfl rfl ?_
    refine Ex_aload_n dX7_allSteps_5 rfl rfl ?_
    refine Ex_getf dX7_allSteps_6 rfl (by first | exact hr | exact hA | exact hP _ (by omega)) rfl rfl rfl ?_
    refine Ex_icmp_ge (t := 30) dX7_allSteps_9 rfl rfl (by omega) (fun c9 => absurd c9 (by omega)) (fun c9 => ?_)
    refine Ex_iload_n dX7_allSteps_12 rfl rfl ?_
    refine Ex_aload_n dX7_allSteps_13 rfl rfl ?_
    refine Ex_getf dX7_allSteps_14 rfl (by first | exact hr | exact hA | exact hP _ (by omega)) rfl rfl rfl ?_
    refine Ex_iload_n dX7_allSteps_17 rfl rfl ?_
    refine Ex_aald dX7_allSteps_18 rfl (by first | exact hr | exact hA | exact hP _ (by omega)) (by omega) (by omega) (rarr_get (by omega)) ?_
    refine Ex_getf dX7_allSteps_19 rfl (by first | exact hr | exact hA | exact hP _ (by omega)) rfl rfl rfl ?_
    refine Ex_iadd dX7_allSteps_22 rfl ?_
    refine Ex_istore_n (L2 := [_, _, _]) dX7_allSteps_23 rfl rfl rfl ?_
    refine Ex_iinc (L2 := [_, _, _]) dX7_allSteps_24 rfl rfl rfl ?_
    refine Ex_goto (t := 4) dX7_allSteps_27 rfl ?_
    refine Ex_post (ih (c + 1) _ (by omega) ⟨by omega, by omega⟩) ?_
    rintro _ _ ⟨rfl, rfl⟩
    exact ⟨ri (by rw [show sm S c (k + 1) = S c + sm S (c + 1) k from rfl]; omega), rfl⟩

theorem x7_allSteps {E : am_E} {d : Nat} {h : Hp} {r n : Nat} {m tu : Int} {kr : Nat → Nat} {T S C : Nat → Int}  (R : RailAt h r n m tu kr T S C) (hg : Rng n T S C) : Ex E d mX7_allSteps 0 [.ref r, .retAddr 0, .retAddr 0] [] h (fun r1 h1 => r1 = some (.int (i32 (sm S 0 n))) ∧ h1 = h) := by
  refine Ex_iconst dX7_allSteps_0 rfl ?_
  refine Ex_istore_n (L2 := [_, _, _]) dX7_allSteps_1 rfl rfl rfl ?_
  refine Ex_iconst dX7_allSteps_2 rfl ?_
  refine Ex_istore_n (L2 := [_, _, _]) dX7_allSteps_3 rfl rfl rfl ?_
  refine Ex_post (x7_allSteps_l R hg n 0 0 (by omega) (by omega)) ?_
  rintro _ _ ⟨rfl, rfl⟩
  exact ⟨ri (by omega), rfl⟩
theorem x7_allCold_l {E : am_E} {d : Nat} {h : Hp} {r n : Nat} {m tu : Int} {kr : Nat → Nat} {T S C : Nat → Int}  (R : RailAt h r n m tu kr T S C) (hg : Rng n T S C) : ∀ (k : Nat) (c : Nat) (a : Int), c + k = n → 0 ≤ a ∧ a ≤ 20 * c → Ex E d mX7_allCold 4 [.ref r, .int (i32 a), .int (i32 (c : Int))] [] h (fun r1 h1 => r1 = some (.int (i32 (a + sm C c k))) ∧ h1 = h) := by
  obtain ⟨hr, hA, hP, hG, hn6⟩ := id R
  intro k
  induction k with
  | zero =>
    intro c a hk ha
    refine Ex_iload_n dX7_allCold_4 rfl rfl ?_
    refine Ex_aload_n dX7_allCold_5 rfl rfl ?_
    refine Ex_getf dX7_allCold_6 rfl (by first | exact hr | exact hA | exact hP _ (by omega)) rfl rfl rfl ?_
    refine Ex_icmp_ge (t := 30) dX7_allCold_9 rfl rfl (by omega) (fun c9 => ?_) (fun c9 => absurd c9 (by omega))
    refine Ex_iload_n dX7_allCold_30 rfl rfl ?_
    refine Ex_iret dX7_allCold_31 rfl rfl ?_
    exact ⟨ri (by unfold sm; omega), rfl⟩
  | succ k ih =>
    intro c a hk ha
    have hgc := hg c (by omega)
    refine Ex_iload_n dX7_allCold_4 rfl rfl ?_
    refine Ex_aload_n dX7_allCold_5 rfl rfl ?_
    refine Ex_getf dX7_allCold_6 rfl (by first | exact hr | exact hA | exact hP _ (by omega)) rfl rfl rfl ?_
    refine Ex_icmp_ge (t := 30) dX7_allCold_9 rfl rfl (by omega) (fun c9 => absurd c9 (by omega)) (fun c9 => ?_)
    refine Ex_iload_n dX7_allCold_12 rfl rfl ?_
    refine Ex_aload_n dX7_allCold_13 rfl rfl ?_
    refine Ex_getf dX7_allCold_14 rfl (by first | exact hr | exact hA | exact hP _ (by omega)) rfl rfl rfl ?_
    refine Ex_iload_n dX7_allCold_17 rfl rfl ?_
    refine Ex_aald dX7_allCold_18 rfl (by first | exact hr | exact hA | exact hP _ (by omega)) (by omega) (by omega) (rarr_get (by omega)) ?_
    refine Ex_getf dX7_allCold_19 rfl (by first | exact hr | exact hA | exact hP _ (by omega)) rfl rfl rfl ?_
    refine Ex_iadd dX7_allCold_22 rfl ?_
    refine Ex_istore_n (L2 := [_, _, _]) dX7_allCold_23 rfl rfl rfl ?_
    refine Ex_iinc (L2 := [_, _, _]) dX7_allCold_24 rfl rfl rfl ?_
    refine Ex_goto (t := 4) dX7_allCold_27 rfl ?_
    refine Ex_post (ih (c + 1) _ (by omega) ⟨by omega, by omega⟩) ?_
    rintro _ _ ⟨rfl, rfl⟩
    exact ⟨ri (by rw [show sm C c (k + 1) = C c + sm C (c + 1) k from rfl]; omega), rfl⟩

theorem x7_allCold {E : am_E} {d : Nat} {h : Hp} {r n : Nat} {m tu : Int} {kr : Nat → Nat} {T S C : Nat → Int}  (R : RailAt h r n m tu kr T S C) (hg : Rng n T S C) : Ex E d mX7_allCold 0 [.ref r, .retAddr 0, .retAddr 0] [] h (fun r1 h1 => r1 = some (.int (i32 (sm C 0 n))) ∧ h1 = h) := by
  refine Ex_iconst dX7_allCold_0 rfl ?_
  refine Ex_istore_n (L2 := [_, _, _]) dX7_allCold_1 rfl rfl rfl ?_
  refine Ex_iconst dX7_allCold_2 rfl ?_
  refine Ex_istore_n (L2 := [_, _, _]) dX7_allCold_3 rfl rfl rfl ?_
  refine Ex_post (x7_allCold_l R hg n 0 0 (by omega) (by omega)) ?_
  rintro _ _ ⟨rfl, rfl⟩
  exact ⟨ri (by omega), rfl⟩
