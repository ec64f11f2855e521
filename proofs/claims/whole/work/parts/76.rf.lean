/-! the reference: more calls (by program: wip/whole/spec_rf.py) -/
theorem part0 {u v : Nat} {p : Int} (hp : 0 ≤ p ∧ p ≤ 1) (hu : u = 0) (hv : 0 < v) : ltm u v p = p := by
  subst hu
  unfold ltm
  rw [Nat.gcd_zero_right]
  by_cases e : p = 0
  · rw [if_pos e, e]; exact Int.zero_ediv _
  · rw [if_neg e]
    have : (v : Int) / (v : Int) = 1 := Int.ediv_self (by omega)
    omega
theorem gcd_st2 {a b : Nat} : Nat.gcd b (a % b) = Nat.gcd a b := gcd_st
theorem hlp_nb {n c : Nat} : (nbr n c = 0 ∧ c = 0 ∧ ¬ c + 1 < n) ∨ (nbr n c = 1 ∧ c = 0 ∧ c + 1 < n) ∨ (nbr n c = 1 ∧ 0 < c ∧ ¬ c + 1 < n) ∨ (nbr n c = 2 ∧ 0 < c ∧ c + 1 < n) := by
  unfold nbr
  by_cases a : 0 < c <;> by_cases b : c + 1 < n <;> simp [a, b] <;> omega
theorem x12_helps_l {E : am_E} {d : Nat} {h : Hp} {m n : Nat} {g K F T S C : Nat → Int} {ρ : Nat → Nat → Int} {kp : Value}  (M : MAt h m g K F T S C ρ kp) (hn : g 0 = (n : Int)) (hn6 : n ≤ 6) (hg : Rng n T S C) (hK : ∀ i, i < n → (0 ≤ K i ∧ K i ≤ 7) ∧ (0 ≤ F i ∧ F i ≤ 9))  : ∀ (k : Nat) (c : Nat) (most best : Int) (v4 v5 : Value), c + k = n → -1 ≤ most ∧ most ≤ 6 → Ex E (d + 3) mX12_helps 12 [.ref m, .int (i32 best), .int (i32 most), .int (i32 (c : Int)), v4, v5] [] h (fun r1 h1 => r1 = some (.int (i32 (an_helps n K F T S c most best k))) ∧ h1 = h) := by
  intro k
  induction k with
  | zero =>
    intro c most best v4 v5 hk hm
    refine Ex_iload_n dX12_helps_12 rfl rfl ?_
    refine Ex_aload_n dX12_helps_13 rfl rfl ?_
    refine Ex_getf dX12_helps_14 rfl (ma0 M) rfl rfl rfl ?_
    refine Ex_icmp_ge (t := 109) dX12_helps_17 rfl rfl (by omega) (fun c17 => ?_) (fun c17 => absurd c17 (by omega))
    refine Ex_iload_n dX12_helps_109 rfl rfl ?_
    refine Ex_iret dX12_helps_110 rfl rfl ?_
    exact ⟨rfl, rfl⟩
  | succ k ih =>
    intro c most best v4 v5 hk hm
    have hgc := hg c (by omega)
    have hKc := hK c (by omega)
    have hp := sp_passes_r (k := K c)
    have ea : an_helps n K F T S c most best (k + 1) = if (S c < 7 ∧ sp_needs (K c) (F c) (S c) ≤ T c) ∧ most < sp_passes (K c) * nbr n c then an_helps n K F T S (c + 1) (sp_passes (K c) * nbr n c) (c : Int) k else an_helps n K F T S (c + 1) most best k := by
      simp only [an_helps, rdB, decide_eq_true_eq]
    rw [ea]
    rcases hlp_nb (n := n) (c := c) with ⟨e, e1, e2⟩ | ⟨e, e1, e2⟩ | ⟨e, e1, e2⟩ | ⟨e, e1, e2⟩
    all_goals rw [e]
    all_goals by_cases q0 : S c < 7 ∧ sp_needs (K c) (F c) (S c) ≤ T c
    all_goals by_cases q1 : most < sp_passes (K c) * nbr n c
    all_goals rw [e] at q1
    · rw [if_pos ⟨q0, q1⟩]
      refine Ex_iload_n dX12_helps_12 rfl rfl ?_
      refine Ex_aload_n dX12_helps_13 rfl rfl ?_
      refine Ex_getf dX12_helps_14 rfl (ma0 M) rfl rfl rfl ?_
      refine Ex_icmp_ge (t := 109) dX12_helps_17 rfl rfl (by omega) (fun c17 => absurd c17 (by omega)) (fun c17 => ?_)
      refine Ex_iload_n dX12_helps_20 rfl rfl ?_
      refine Ex_if_le (t := 28) dX12_helps_21 rfl rfl (by omega) (fun c21 => ?_) (fun c21 => absurd c21 (by omega))
      refine Ex_iconst dX12_helps_28 rfl ?_
      refine Ex_iload_n dX12_helps_29 rfl rfl ?_
      refine Ex_iconst dX12_helps_30 rfl ?_
      refine Ex_iadd dX12_helps_31 rfl ?_
      refine Ex_aload_n dX12_helps_32 rfl rfl ?_
      refine Ex_getf dX12_helps_33 rfl (ma0 M) rfl rfl rfl ?_
      refine Ex_icmp_ge (t := 43) dX12_helps_36 rfl rfl (by omega) (fun c36 => ?_) (fun c36 => absurd c36 (by omega))
      refine Ex_iconst dX12_helps_43 rfl ?_
      refine Ex_iadd dX12_helps_44 rfl ?_
      refine Ex_istore (L2 := [_, _, _, _, _, _]) dX12_helps_45 rfl rfl rfl ?_
      refine Ex_aload_n dX12_helps_47 rfl rfl ?_
      refine Ex_iload_n dX12_helps_48 rfl rfl ?_
      refine Ex_inv 2 dX12_helps_49 rfl rfl (Or.inl rfl) rfl rfl rfl rfl (ma0 M) rfl rfl rfl (Ex_post (x12_isReady M hn6 hg hK (by omega)) ?_)
      rintro _ _ ⟨rfl, e0⟩
      obtain rfl := Eq.symm e0
      refine Ex_if_eq (t := 71) dX12_helps_52 rfl rfl (by first | (rw [if_pos q0]; omega) | (rw [if_neg q0]; omega)) (fun c52 => absurd c52 (by first | (rw [if_pos q0] at c52; omega) | (rw [if_neg q0] at c52; omega))) (fun c52 => ?_)
      refine Ex_aload_n dX12_helps_55 rfl rfl ?_
      refine Ex_iload_n dX12_helps_56 rfl rfl ?_
      refine Ex_inv 2 dX12_helps_57 rfl rfl (Or.inl rfl) rfl rfl rfl rfl (ma0 M) rfl rfl rfl (Ex_post (x12_passesOf M hn6 hK (by omega)) ?_)
      rintro _ _ ⟨rfl, e0⟩
      obtain rfl := Eq.symm e0
      refine Ex_iload dX12_helps_60 rfl rfl ?_
      refine Ex_imul dX12_helps_62 rfl ?_
      refine Ex_iload_n dX12_helps_63 rfl rfl ?_
      refine Ex_icmp_le (t := 71) dX12_helps_64 rfl rfl (by omega) (fun c64 => absurd c64 (by omega)) (fun c64 => ?_)
      refine Ex_iconst dX12_helps_67 rfl ?_
      refine Ex_goto (t := 72) dX12_helps_68 rfl ?_
      refine Ex_istore (L2 := [_, _, _, _, _, _]) dX12_helps_72 rfl rfl rfl ?_
      refine Ex_iload dX12_helps_74 rfl rfl ?_
      refine Ex_if_eq (t := 83) dX12_helps_76 rfl rfl (by omega) (fun c76 => absurd c76 (by omega)) (fun c76 => ?_)
      refine Ex_iload_n dX12_helps_79 rfl rfl ?_
      refine Ex_goto (t := 84) dX12_helps_80 rfl ?_
      refine Ex_istore_n (L2 := [_, _, _, _, _, _]) dX12_helps_84 rfl rfl rfl ?_
      refine Ex_iload dX12_helps_85 rfl rfl ?_
      refine Ex_if_eq (t := 101) dX12_helps_87 rfl rfl (by omega) (fun c87 => absurd c87 (by omega)) (fun c87 => ?_)
      refine Ex_aload_n dX12_helps_90 rfl rfl ?_
      refine Ex_iload_n dX12_helps_91 rfl rfl ?_
      refine Ex_inv 2 dX12_helps_92 rfl rfl (Or.inl rfl) rfl rfl rfl rfl (ma0 M) rfl rfl rfl (Ex_post (x12_passesOf M hn6 hK (by omega)) ?_)
      rintro _ _ ⟨rfl, e0⟩
      obtain rfl := Eq.symm e0
      refine Ex_iload dX12_helps_95 rfl rfl ?_
      refine Ex_imul dX12_helps_97 rfl ?_
      refine Ex_goto (t := 102) dX12_helps_98 rfl ?_
      refine Ex_istore_n (L2 := [_, _, _, _, _, _]) dX12_helps_102 rfl rfl rfl ?_
      refine Ex_iinc (L2 := [_, _, _, _, _, _]) dX12_helps_103 rfl rfl rfl ?_
      refine Ex_goto (t := 12) dX12_helps_106 rfl ?_
      exact ih (c + 1) _ _ _ _ (by omega) (by omega)
    · rw [if_neg (fun z => q1 z.2)]
      refine Ex_iload_n dX12_helps_12 rfl rfl ?_
      refine Ex_aload_n dX12_helps_13 rfl rfl ?_
      refine Ex_getf dX12_helps_14 rfl (ma0 M) rfl rfl rfl ?_
      refine Ex_icmp_ge (t := 109) dX12_helps_17 rfl rfl (by omega) (fun c17 => absurd c17 (by omega)) (fun c17 => ?_)
      refine Ex_iload_n dX12_helps_20 rfl rfl ?_
      refine Ex_if_le (t := 28) dX12_helps_21 rfl rfl (by omega) (fun c21 => ?_) (fun c21 => absurd c21 (by omega))
      refine Ex_iconst dX12_helps_28 rfl ?_
      refine Ex_iload_n dX12_helps_29 rfl rfl ?_
      refine Ex_iconst dX12_helps_30 rfl ?_
      refine Ex_iadd dX12_helps_31 rfl ?_
      refine Ex_aload_n dX12_helps_32 rfl rfl ?_
      refine Ex_getf dX12_helps_33 rfl (ma0 M) rfl rfl rfl ?_
      refine Ex_icmp_ge (t := 43) dX12_helps_36 rfl rfl (by omega) (fun c36 => ?_) (fun c36 => absurd c36 (by omega))
      refine Ex_iconst dX12_helps_43 rfl ?_
      refine Ex_iadd dX12_helps_44 rfl ?_
      refine Ex_istore (L2 := [_, _, _, _, _, _]) dX12_helps_45 rfl rfl rfl ?_
      refine Ex_aload_n dX12_helps_47 rfl rfl ?_
      refine Ex_iload_n dX12_helps_48 rfl rfl ?_
      refine Ex_inv 2 dX12_helps_49 rfl rfl (Or.inl rfl) rfl rfl rfl rfl (ma0 M) rfl rfl rfl (Ex_post (x12_isReady M hn6 hg hK (by omega)) ?_)
      rintro _ _ ⟨rfl, e0⟩
      obtain rfl := Eq.symm e0
      refine Ex_if_eq (t := 71) dX12_helps_52 rfl rfl (by first | (rw [if_pos q0]; omega) | (rw [if_neg q0]; omega)) (fun c52 => absurd c52 (by first | (rw [if_pos q0] at c52; omega) | (rw [if_neg q0] at c52; omega))) (fun c52 => ?_)
      refine Ex_aload_n dX12_helps_55 rfl rfl ?_
      refine Ex_iload_n dX12_helps_56 rfl rfl ?_
      refine Ex_inv 2 dX12_helps_57 rfl rfl (Or.inl rfl) rfl rfl rfl rfl (ma0 M) rfl rfl rfl (Ex_post (x12_passesOf M hn6 hK (by omega)) ?_)
      rintro _ _ ⟨rfl, e0⟩
      obtain rfl := Eq.symm e0
      refine Ex_iload dX12_helps_60 rfl rfl ?_
      refine Ex_imul dX12_helps_62 rfl ?_
      refine Ex_iload_n dX12_helps_63 rfl rfl ?_
      refine Ex_icmp_le (t := 71) dX12_helps_64 rfl rfl (by omega) (fun c64 => ?_) (fun c64 => absurd c64 (by omega))
      refine Ex_iconst dX12_helps_71 rfl ?_
      refine Ex_istore (L2 := [_, _, _, _, _, _]) dX12_helps_72 rfl rfl rfl ?_
      refine Ex_iload dX12_helps_74 rfl rfl ?_
      refine Ex_if_eq (t := 83) dX12_helps_76 rfl rfl (by omega) (fun c76 => ?_) (fun c76 => absurd c76 (by omega))
      refine Ex_iload_n dX12_helps_83 rfl rfl ?_
      refine Ex_istore_n (L2 := [_, _, _, _, _, _]) dX12_helps_84 rfl rfl rfl ?_
      refine Ex_iload dX12_helps_85 rfl rfl ?_
      refine Ex_if_eq (t := 101) dX12_helps_87 rfl rfl (by omega) (fun c87 => ?_) (fun c87 => absurd c87 (by omega))
      refine Ex_iload_n dX12_helps_101 rfl rfl ?_
      refine Ex_istore_n (L2 := [_, _, _, _, _, _]) dX12_helps_102 rfl rfl rfl ?_
      refine Ex_iinc (L2 := [_, _, _, _, _, _]) dX12_helps_103 rfl rfl rfl ?_
      refine Ex_goto (t := 12) dX12_helps_106 rfl ?_
      exact ih (c + 1) _ _ _ _ (by omega) (by omega)
    · rw [if_neg (fun z => q0 z.1)]
      refine Ex_iload_n dX12_helps_12 rfl rfl ?_
      refine Ex_aload_n dX12_helps_13 rfl rfl ?_
      refine Ex_getf dX12_helps_14 rfl (ma0 M) rfl rfl rfl ?_
      refine Ex_icmp_ge (t := 109) dX12_helps_17 rfl rfl (by omega) (fun c17 => absurd c17 (by omega)) (fun c17 => ?_)
      refine Ex_iload_n dX12_helps_20 rfl rfl ?_
      refine Ex_if_le (t := 28) dX12_helps_21 rfl rfl (by omega) (fun c21 => ?_) (fun c21 => absurd c21 (by omega))
      refine Ex_iconst dX12_helps_28 rfl ?_
      refine Ex_iload_n dX12_helps_29 rfl rfl ?_
      refine Ex_iconst dX12_helps_30 rfl ?_
      refine Ex_iadd dX12_helps_31 rfl ?_
      refine Ex_aload_n dX12_helps_32 rfl rfl ?_
      refine Ex_getf dX12_helps_33 rfl (ma0 M) rfl rfl rfl ?_
      refine Ex_icmp_ge (t := 43) dX12_helps_36 rfl rfl (by omega) (fun c36 => ?_) (fun c36 => absurd c36 (by omega))
      refine Ex_iconst dX12_helps_43 rfl ?_
      refine Ex_iadd dX12_helps_44 rfl ?_
      refine Ex_istore (L2 := [_, _, _, _, _, _]) dX12_helps_45 rfl rfl rfl ?_
      refine Ex_aload_n dX12_helps_47 rfl rfl ?_
      refine Ex_iload_n dX12_helps_48 rfl rfl ?_
      refine Ex_inv 2 dX12_helps_49 rfl rfl (Or.inl rfl) rfl rfl rfl rfl (ma0 M) rfl rfl rfl (Ex_post (x12_isReady M hn6 hg hK (by omega)) ?_)
      rintro _ _ ⟨rfl, e0⟩
      obtain rfl := Eq.symm e0
      refine Ex_if_eq (t := 71) dX12_helps_52 rfl rfl (by first | (rw [if_pos q0]; omega) | (rw [if_neg q0]; omega)) (fun c52 => ?_) (fun c52 => absurd c52 (by first | (rw [if_pos q0] at c52; omega) | (rw [if_neg q0] at c52; omega)))
      refine Ex_iconst dX12_helps_71 rfl ?_
      refine Ex_istore (L2 := [_, _, _, _, _, _]) dX12_helps_72 rfl rfl rfl ?_
      refine Ex_iload dX12_helps_74 rfl rfl ?_
      refine Ex_if_eq (t := 83) dX12_helps_76 rfl rfl (by omega) (fun c76 => ?_) (fun c76 => absurd c76 (by omega))
      refine Ex_iload_n dX12_helps_83 rfl rfl ?_
      refine Ex_istore_n (L2 := [_, _, _, _, _, _]) dX12_helps_84 rfl rfl rfl ?_
      refine Ex_iload dX12_helps_85 rfl rfl ?_
      refine Ex_if_eq (t := 101) dX12_helps_87 rfl rfl (by omega) (fun c87 => ?_) (fun c87 => absurd c87 (by omega))
      refine Ex_iload_n dX12_helps_101 rfl rfl ?_
      refine Ex_istore_n (L2 := [_, _, _, _, _, _]) dX12_helps_102 rfl rfl rfl ?_
      refine Ex_iinc (L2 := [_, _, _, _, _, _]) dX12_helps_103 rfl rfl rfl ?_
      refine Ex_goto (t := 12) dX12_helps_106 rfl ?_
      exact ih (c + 1) _ _ _ _ (by omega) (by omega)
    · rw [if_neg (fun z => q0 z.1)]
      refine Ex_iload_n dX12_helps_12 rfl rfl ?_
      refine Ex_aload_n dX12_helps_13 rfl rfl ?_
      refine Ex_getf dX12_helps_14 rfl (ma0 M) rfl rfl rfl ?_
      refine Ex_icmp_ge (t := 109) dX12_helps_17 rfl rfl (by omega) (fun c17 => absurd c17 (by omega)) (fun c17 => ?_)
      refine Ex_iload_n dX12_helps_20 rfl rfl ?_
      refine Ex_if_le (t := 28) dX12_helps_21 rfl rfl (by omega) (fun c21 => ?_) (fun c21 => absurd c21 (by omega))
      refine Ex_iconst dX12_helps_28 rfl ?_
      refine Ex_iload_n dX12_helps_29 rfl rfl ?_
      refine Ex_iconst dX12_helps_30 rfl ?_
      refine Ex_iadd dX12_helps_31 rfl ?_
      refine Ex_aload_n dX12_helps_32 rfl rfl ?_
      refine Ex_getf dX12_helps_33 rfl (ma0 M) rfl rfl rfl ?_
      refine Ex_icmp_ge (t := 43) dX12_helps_36 rfl rfl (by omega) (fun c36 => ?_) (fun c36 => absurd c36 (by omega))
      refine Ex_iconst dX12_helps_43 rfl ?_
      refine Ex_iadd dX12_helps_44 rfl ?_
      refine Ex_istore (L2 := [_, _, _, _, _, _]) dX12_helps_45 rfl rfl rfl ?_
      refine Ex_aload_n dX12_helps_47 rfl rfl ?_
      refine Ex_iload_n dX12_helps_48 rfl rfl ?_
      refine Ex_inv 2 dX12_helps_49 rfl rfl (Or.inl rfl) rfl rfl rfl rfl (ma0 M) rfl rfl rfl (Ex_post (x12_isReady M hn6 hg hK (by omega)) ?_)
      rintro _ _ ⟨rfl, e0⟩
      obtain rfl := Eq.symm e0
      refine Ex_if_eq (t := 71) dX12_helps_52 rfl rfl (by first | (rw [if_pos q0]; omega) | (rw [if_neg q0]; omega)) (fun c52 => ?_) (fun c52 => absurd c52 (by first | (rw [if_pos q0] at c52; omega) | (rw [if_neg q0] at c52; omega)))
      refine Ex_iconst dX12_helps_71 rfl ?_
      refine Ex_istore (L2 := [_, _, _, _, _, _]) dX12_helps_72 rfl rfl rfl ?_
      refine Ex_iload dX12_helps_74 rfl rfl ?_
      refine Ex_if_eq (t := 83) dX12_helps_76 rfl rfl (by omega) (fun c76 => ?_) (fun c76 => absurd c76 (by omega))
      refine Ex_iload_n dX12_helps_83 rfl rfl ?_
      refine Ex_istore_n (L2 := [_, _, _, _, _, _]) dX12_helps_84 rfl rfl rfl ?_
      refine Ex_iload dX12_helps_85 rfl rfl ?_
      refine Ex_if_eq (t := 101) dX12_helps_87 rfl rfl (by omega) (fun c87 => ?_) (fun c87 => absurd c87 (by omega))
      refine Ex_iload_n dX12_helps_101 rfl rfl ?_
      refine Ex_istore_n (L2 := [_, _, _, _, _, _]) dX12_helps_102 rfl rfl rfl ?_
      refine Ex_iinc (L2 := [_, _, _, _, _, _]) dX12_helps_103 rfl rfl rfl ?_
      refine Ex_goto (t := 12) dX12_helps_106 rfl ?_
      exact ih (c + 1) _ _ _ _ (by omega) (by omega)
    · rw [if_pos ⟨q0, q1⟩]
      refine Ex_iload_n dX12_helps_12 rfl rfl ?_
      refine Ex_aload_n dX12_helps_13 rfl rfl ?_
      refine Ex_getf dX12_helps_14 rfl (ma0 M) rfl rfl rfl ?_
      refine Ex_icmp_ge (t := 109) dX12_helps_17 rfl rfl (by omega) (fun c17 => absurd c17 (by omega)) (fun c17 => ?_)
      refine Ex_iload_n dX12_helps_20 rfl rfl ?_
      refine Ex_if_le (t := 28) dX12_helps_21 rfl rfl (by omega) (fun c21 => ?_) (fun c21 => absurd c21 (by omega))
      refine Ex_iconst dX12_helps_28 rfl ?_
      refine Ex_iload_n dX12_helps_29 rfl rfl ?_
      refine Ex_iconst dX12_helps_30 rfl ?_
      refine Ex_iadd dX12_helps_31 rfl ?_
      refine Ex_aload_n dX12_helps_32 rfl rfl ?_
      refine Ex_getf dX12_helps_33 rfl (ma0 M) rfl rfl rfl ?_
      refine Ex_icmp_ge (t := 43) dX12_helps_36 rfl rfl (by omega) (fun c36 => absurd c36 (by omega)) (fun c36 => ?_)
      refine Ex_iconst dX12_helps_39 rfl ?_
      refine Ex_goto (t := 44) dX12_helps_40 rfl ?_
      refine Ex_iadd dX12_helps_44 rfl ?_
      refine Ex_istore (L2 := [_, _, _, _, _, _]) dX12_helps_45 rfl rfl rfl ?_
      refine Ex_aload_n dX12_helps_47 rfl rfl ?_
      refine Ex_iload_n dX12_helps_48 rfl rfl ?_
      refine Ex_inv 2 dX12_helps_49 rfl rfl (Or.inl rfl) rfl rfl rfl rfl (ma0 M) rfl rfl rfl (Ex_post (x12_isReady M hn6 hg hK (by omega)) ?_)
      rintro _ _ ⟨rfl, e0⟩
      obtain rfl := Eq.symm e0
      refine Ex_if_eq (t := 71) dX12_helps_52 rfl rfl (by first | (rw [if_pos q0]; omega) | (rw [if_neg q0]; omega)) (fun c52 => absurd c52 (by first | (rw [if_pos q0] at c52; omega) | (rw [if_neg q0] at c52; omega))) (fun c52 => ?_)
      refine Ex_aload_n dX12_helps_55 rfl rfl ?_
      refine Ex_iload_n dX12_helps_56 rfl rfl ?_
      refine Ex_inv 2 dX12_helps_57 rfl rfl (Or.inl rfl) rfl rfl rfl rfl (ma0 M) rfl rfl rfl (Ex_post (x12_passesOf M hn6 hK (by omega)) ?_)
      rintro _ _ ⟨rfl, e0⟩
      obtain rfl := Eq.symm e0
      refine Ex_iload dX12_helps_60 rfl rfl ?_
      refine Ex_imul dX12_helps_62 rfl ?_
      refine Ex_iload_n dX12_helps_63 rfl rfl ?_
      refine Ex_icmp_le (t := 71) dX12_helps_64 rfl rfl (by omega) (fun c64 => absurd c64 (by omega)) (fun c64 => ?_)
      refine Ex_iconst dX12_helps_67 rfl ?_
      refine Ex_goto (t := 72) dX12_helps_68 rfl ?_
      refine Ex_istore (L2 := [_, _, _, _, _, _]) dX12_helps_72 rfl rfl rfl ?_
      refine Ex_iload dX12_helps_74 rfl rfl ?_
      refine Ex_if_eq (t := 83) dX12_helps_76 rfl rfl (by omega) (fun c76 => absurd c76 (by omega)) (fun c76 => ?_)
      refine Ex_iload_n dX12_helps_79 rfl rfl ?_
      refine Ex_goto (t := 84) dX12_helps_80 rfl ?_
      refine Ex_istore_n (L2 := [_, _, _, _, _, _]) dX12_helps_84 rfl rfl rfl ?_
      refine Ex_iload dX12_helps_85 rfl rfl ?_
      refine Ex_if_eq (t := 101) dX12_helps_87 rfl rfl (by omega) (fun c87 => absurd c87 (by omega)) (fun c87 => ?_)
      refine Ex_aload_n dX12_helps_90 rfl rfl ?_
      refine Ex_iload_n dX12_helps_91 rfl rfl ?_
      refine Ex_inv 2 dX12_helps_92 rfl rfl (Or.inl rfl) rfl rfl rfl rfl (ma0 M) rfl rfl rfl (Ex_post (x12_passesOf M hn6 hK (by omega)) ?_)
      rintro _ _ ⟨rfl, e0⟩
      obtain rfl := Eq.symm e0
      refine Ex_iload dX12_helps_95 rfl rfl ?_
      refine Ex_imul dX12_helps_97 rfl ?_
      refine Ex_goto (t := 102) dX12_helps_98 rfl ?_
      refine Ex_istore_n (L2 := [_, _, _, _, _, _]) dX12_helps_102 rfl rfl rfl ?_
      refine Ex_iinc (L2 := [_, _, _, _, _, _]) dX12_helps_103 rfl rfl rfl ?_
      refine Ex_goto (t := 12) dX12_helps_106 rfl ?_
      exact ih (c + 1) _ _ _ _ (by omega) (by omega)
    · rw [if_neg (fun z => q1 z.2)]
      refine Ex_iload_n dX12_helps_12 rfl rfl ?_
      refine Ex_aload_n dX12_helps_13 rfl rfl ?_
      refine Ex_getf dX12_helps_14 rfl (ma0 M) rfl rfl rfl ?_
      refine Ex_icmp_ge (t := 109) dX12_helps_17 rfl rfl (by omega) (fun c17 => absurd c17 (by omega)) (fun c17 => ?_)
      refine Ex_iload_n dX12_helps_20 rfl rfl ?_
      refine Ex_if_le (t := 28) dX12_helps_21 rfl rfl (by omega) (fun c21 => ?_) (fun c21 => absurd c21 (by omega))
      refine Ex_iconst dX12_helps_28 rfl ?_
      refine Ex_iload_n dX12_helps_29 rfl rfl ?_
      refine Ex_iconst dX12_helps_30 rfl ?_
      refine Ex_iadd dX12_helps_31 rfl ?_
      refine Ex_aload_n dX12_helps_32 rfl rfl ?_
      refine Ex_getf dX12_helps_33 rfl (ma0 M) rfl rfl rfl ?_
      refine Ex_icmp_ge (t := 43) dX12_helps_36 rfl rfl (by omega) (fun c36 => absurd c36 (by omega)) (fun c36 => ?_)
      refine Ex_iconst dX12_helps_39 rfl ?_
      refine Ex_goto (t := 44) dX12_helps_40 rfl ?_
      refine Ex_iadd dX12_helps_44 rfl ?_
      refine Ex_istore (L2 := [_, _, _, _, _, _]) dX12_helps_45 rfl rfl rfl ?_
      refine Ex_aload_n dX12_helps_47 rfl rfl ?_
      refine Ex_iload_n dX12_helps_48 rfl rfl ?_
      refine Ex_inv 2 dX12_helps_49 rfl rfl (Or.inl rfl) rfl rfl rfl rfl (ma0 M) rfl rfl rfl (Ex_post (x12_isReady M hn6 hg hK (by omega)) ?_)
      rintro _ _ ⟨rfl, e0⟩
      obtain rfl := Eq.symm e0
      refine Ex_if_eq (t := 71) dX12_helps_52 rfl rfl (by first | (rw [if_pos q0]; omega) | (rw [if_neg q0]; omega)) (fun c52 => absurd c52 (by first | (rw [if_pos q0] at c52; omega) | (rw [if_neg q0] at c52; omega))) (fun c52 => ?_)
      refine Ex_aload_n dX12_helps_55 rfl rfl ?_
      refine Ex_iload_n dX12_helps_56 rfl rfl ?_
      refine Ex_inv 2 dX12_helps_57 rfl rfl (Or.inl rfl) rfl rfl rfl rfl (ma0 M) rfl rfl rfl (Ex_post (x12_passesOf M hn6 hK (by omega)) ?_)
      rintro _ _ ⟨rfl, e0⟩
      obtain rfl := Eq.symm e0
      refine Ex_iload dX12_helps_60 rfl rfl ?_
      refine Ex_imul dX12_helps_62 rfl ?_
      refine Ex_iload_n dX12_helps_63 rfl rfl ?_
      refine Ex_icmp_le (t := 71) dX12_helps_64 rfl rfl (by omega) (fun c64 => ?_) (fun c64 => absurd c64 (by omega))
      refine Ex_iconst dX12_helps_71 rfl ?_
      refine Ex_istore (L2 := [_, _, _, _, _, _]) dX12_helps_72 rfl rfl rfl ?_
      refine Ex_iload dX12_helps_74 rfl rfl ?_
      refine Ex_if_eq (t := 83) dX12_helps_76 rfl rfl (by omega) (fun c76 => ?_) (fun c76 => absurd c76 (by omega))
      refine Ex_iload_n dX12_helps_83 rfl rfl ?_
      refine Ex_istore_n (L2 := [_, _, _, _, _, _]) dX12_helps_84 rfl rfl rfl ?_
      refine Ex_iload dX12_helps_85 rfl rfl ?_
      refine Ex_if_eq (t := 101) dX12_helps_87 rfl rfl (by omega) (fun c87 => ?_) (fun c87 => absurd c87 (by omega))
      refine Ex_iload_n dX12_helps_101 rfl rfl ?_
      refine Ex_istore_n (L2 := [_, _, _, _, _, _]) dX12_helps_102 rfl rfl rfl ?_
      refine Ex_iinc (L2 := [_, _, _, _, _, _]) dX12_helps_103 rfl rfl rfl ?_
      refine Ex_goto (t := 12) dX12_helps_106 rfl ?_
      exact ih (c + 1) _ _ _ _ (by omega) (by omega)
    · rw [if_neg (fun z => q0 z.1)]
      refine Ex_iload_n dX12_helps_12 rfl rfl ?_
      refine Ex_aload_n dX12_helps_13 rfl rfl ?_
      refine Ex_getf dX12_helps_14 rfl (ma0 M) rfl rfl rfl ?_
      refine Ex_icmp_ge (t := 109) dX12_helps_17 rfl rfl (by omega) (fun c17 => absurd c17 (by omega)) (fun c17 => ?_)
      refine Ex_iload_n dX12_helps_20 rfl rfl ?_
      refine Ex_if_le (t := 28) dX12_helps_21 rfl rfl (by omega) (fun c21 => ?_) (fun c21 => absurd c21 (by omega))
      refine Ex_iconst dX12_helps_28 rfl ?_
      refine Ex_iload_n dX12_helps_29 rfl rfl ?_
      refine Ex_iconst dX12_helps_30 rfl ?_
      refine Ex_iadd dX12_helps_31 rfl ?_
      refine Ex_aload_n dX12_helps_32 rfl rfl ?_
      refine Ex_getf dX12_helps_33 rfl (ma0 M) rfl rfl rfl ?_
      refine Ex_icmp_ge (t := 43) dX12_helps_36 rfl rfl (by omega) (fun c36 => absurd c36 (by omega)) (fun c36 => ?_)
      refine Ex_iconst dX12_helps_39 rfl ?_
      refine Ex_goto (t := 44) dX12_helps_40 rfl ?_
      refine Ex_iadd dX12_helps_44 rfl ?_
      refine Ex_istore (L2 := [_, _, _, _, _, _]) dX12_helps_45 rfl rfl rfl ?_
      refine Ex_aload_n dX12_helps_47 rfl rfl ?_
      refine Ex_iload_n dX12_helps_48 rfl rfl ?_
      refine Ex_inv 2 dX12_helps_49 rfl rfl (Or.inl rfl) rfl rfl rfl rfl (ma0 M) rfl rfl rfl (Ex_post (x12_isReady M hn6 hg hK (by omega)) ?_)
      rintro _ _ ⟨rfl, e0⟩
      obtain rfl := Eq.symm e0
      refine Ex_if_eq (t := 71) dX12_helps_52 rfl rfl (by first | (rw [if_pos q0]; omega) | (rw [if_neg q0]; omega)) (fun c52 => ?_) (fun c52 => absurd c52 (by first | (rw [if_pos q0] at c52; omega) | (rw [if_neg q0] at c52; omega)))
      refine Ex_iconst dX12_helps_71 rfl ?_
      refine Ex_istore (L2 := [_, _, _, _, _, _]) dX12_helps_72 rfl rfl rfl ?_
      refine Ex_iload dX12_helps_74 rfl rfl ?_
      refine Ex_if_eq (t := 83) dX12_helps_76 rfl rfl (by omega) (fun c76 => ?_) (fun c76 => absurd c76 (by omega))
      refine Ex_iload_n dX12_helps_83 rfl rfl ?_
      refine Ex_istore_n (L2 := [_, _, _, _, _, _]) dX12_helps_84 rfl rfl rfl ?_
      refine Ex_iload dX12_helps_85 rfl rfl ?_
      refine Ex_if_eq (t := 101) dX12_helps_87 rfl rfl (by omega) (fun c87 => ?_) (fun c87 => absurd c87 (by omega))
      refine Ex_iload_n dX12_helps_101 rfl rfl ?_
      refine Ex_istore_n (L2 := [_, _, _, _, _, _]) dX12_helps_102 rfl rfl rfl ?_
      refine Ex_iinc (L2 := [_, _, _, _, _, _]) dX12_helps_103 rfl rfl rfl ?_
      refine Ex_goto (t := 12) dX12_helps_106 rfl ?_
      exact ih (c + 1) _ _ _ _ (by omega) (by omega)
    · rw [if_neg (fun z => q0 z.1)]
      refine Ex_iload_n dX12_helps_12 rfl rfl ?_
      refine Ex_aload_n dX12_helps_13 rfl rfl ?_
      refine Ex_getf dX12_helps_14 rfl (ma0 M) rfl rfl rfl ?_
      refine Ex_icmp_ge (t := 109) dX12_helps_17 rfl rfl (by omega) (fun c17 => absurd c17 (by omega)) (fun c17 => ?_)
      refine Ex_iload_n dX12_helps_20 rfl rfl ?_
      refine Ex_if_le (t := 28) dX12_helps_21 rfl rfl (by omega) (fun c21 => ?_) (fun c21 => absurd c21 (by omega))
      refine Ex_iconst dX12_helps_28 rfl ?_
      refine Ex_iload_n dX12_helps_29 rfl rfl ?_
      refine Ex_iconst dX12_helps_30 rfl ?_
      refine Ex_iadd dX12_helps_31 rfl ?_
      refine Ex_aload_n dX12_helps_32 rfl rfl ?_
      refine Ex_getf dX12_helps_33 rfl (ma0 M) rfl rfl rfl ?_
      refine Ex_icmp_ge (t := 43) dX12_helps_36 rfl rfl (by omega) (fun c36 => absurd c36 (by omega)) (fun c36 => ?_)
      refine Ex_iconst dX12_helps_39 rfl ?_
      refine Ex_goto (t := 44) dX12_helps_40 rfl ?_
      refine Ex_iadd dX12_helps_44 rfl ?_
      refine Ex_istore (L2 := [_, _, _, _, _, _]) dX12_helps_45 rfl rfl rfl ?_
      refine Ex_aload_n dX12_helps_47 rfl rfl ?_
      refine Ex_iload_n dX12_helps_48 rfl rfl ?_
      refine Ex_inv 2 dX12_helps_49 rfl rfl (Or.inl rfl) rfl rfl rfl rfl (ma0 M) rfl rfl rfl (Ex_post (x12_isReady M hn6 hg hK (by omega)) ?_)
      rintro _ _ ⟨rfl, e0⟩
      obtain rfl := Eq.symm e0
      refine Ex_if_eq (t := 71) dX12_helps_52 rfl rfl (by first | (rw [if_pos q0]; omega) | (rw [if_neg q0]; omega)) (fun c52 => ?_) (fun c52 => absurd c52 (by first | (rw [if_pos q0] at c52; omega) | (rw [if_neg q0] at c52; omega)))
      refine Ex_iconst dX12_helps_71 rfl ?_
      refine Ex_istore (L2 := [_, _, _, _, _, _]) dX12_helps_72 rfl rfl rfl ?_
      refine Ex_iload dX12_helps_74 rfl rfl ?_
      refine Ex_if_eq (t := 83) dX12_helps_76 rfl rfl (by omega) (fun c76 => ?_) (fun c76 => absurd c76 (by omega))
      refine Ex_iload_n dX12_helps_83 rfl rfl ?_
      refine Ex_istore_n (L2 := [_, _, _, _, _, _]) dX12_helps_84 rfl rfl rfl ?_
      refine Ex_iload dX12_helps_85 rfl rfl ?_
      refine Ex_if_eq (t := 101) dX12_helps_87 rfl rfl (by omega) (fun c87 => ?_) (fun c87 => absurd c87 (by omega))
      refine Ex_iload_n dX12_helps_101 rfl rfl ?_
      refine Ex_istore_n (L2 := [_, _, _, _, _, _]) dX12_helps_102 rfl rfl rfl ?_
      refine Ex_iinc (L2 := [_, _, _, _, _, _]) dX12_helps_103 rfl rfl rfl ?_
      refine Ex_goto (t := 12) dX12_helps_106 rfl ?_
      exact ih (c + 1) _ _ _ _ (by omega) (by omega)
    · rw [if_pos ⟨q0, q1⟩]
      refine Ex_iload_n dX12_helps_12 rfl rfl ?_
      refine Ex_aload_n dX12_helps_13 rfl rfl ?_
      refine Ex_getf dX12_helps_14 rfl (ma0 M) rfl rfl rfl ?_
      refine Ex_icmp_ge (t := 109) dX12_helps_17 rfl rfl (by omega) (fun c17 => absurd c17 (by omega)) (fun c17 => ?_)
      refine Ex_iload_n dX12_helps_20 rfl rfl ?_
      refine Ex_if_le (t := 28) dX12_helps_21 rfl rfl (by omega) (fun c21 => absurd c21 (by omega)) (fun c21 => ?_)
      refine Ex_iconst dX12_helps_24 rfl ?_
      refine Ex_goto (t := 29) dX12_helps_25 rfl ?_
      refine Ex_iload_n dX12_helps_29 rfl rfl ?_
      refine Ex_iconst dX12_helps_30 rfl ?_
      refine Ex_iadd dX12_helps_31 rfl ?_
      refine Ex_aload_n dX12_helps_32 rfl rfl ?_
      refine Ex_getf dX12_helps_33 rfl (ma0 M) rfl rfl rfl ?_
      refine Ex_icmp_ge (t := 43) dX12_helps_36 rfl rfl (by omega) (fun c36 => ?_) (fun c36 => absurd c36 (by omega))
      refine Ex_iconst dX12_helps_43 rfl ?_
      refine Ex_iadd dX12_helps_44 rfl ?_
      refine Ex_istore (L2 := [_, _, _, _, _, _]) dX12_helps_45 rfl rfl rfl ?_
      refine Ex_aload_n dX12_helps_47 rfl rfl ?_
      refine Ex_iload_n dX12_helps_48 rfl rfl ?_
      refine Ex_inv 2 dX12_helps_49 rfl rfl (Or.inl rfl) rfl rfl rfl rfl (ma0 M) rfl rfl rfl (Ex_post (x12_isReady M hn6 hg hK (by omega)) ?_)
      rintro _ _ ⟨rfl, e0⟩
      obtain rfl := Eq.symm e0
      refine Ex_if_eq (t := 71) dX12_helps_52 rfl rfl (by first | (rw [if_pos q0]; omega) | (rw [if_neg q0]; omega)) (fun c52 => absurd c52 (by first | (rw [if_pos q0] at c52; omega) | (rw [if_neg q0] at c52; omega))) (fun c52 => ?_)
      refine Ex_aload_n dX12_helps_55 rfl rfl ?_
      refine Ex_iload_n dX12_helps_56 rfl rfl ?_
      refine Ex_inv 2 dX12_helps_57 rfl rfl (Or.inl rfl) rfl rfl rfl rfl (ma0 M) rfl rfl rfl (Ex_post (x12_passesOf M hn6 hK (by omega)) ?_)
      rintro _ _ ⟨rfl, e0⟩
      obtain rfl := Eq.symm e0
      refine Ex_iload dX12_helps_60 rfl rfl ?_
      refine Ex_imul dX12_helps_62 rfl ?_
      refine Ex_iload_n dX12_helps_63 rfl rfl ?_
      refine Ex_icmp_le (t := 71) dX12_helps_64 rfl rfl (by omega) (fun c64 => absurd c64 (by omega)) (fun c64 => ?_)
      refine Ex_iconst dX12_helps_67 rfl ?_
      refine Ex_goto (t := 72) dX12_helps_68 rfl ?_
      refine Ex_istore (L2 := [_, _, _, _, _, _]) dX12_helps_72 rfl rfl rfl ?_
      refine Ex_iload dX12_helps_74 rfl rfl ?_
      refine Ex_if_eq (t := 83) dX12_helps_76 rfl rfl (by omega) (fun c76 => absurd c76 (by omega)) (fun c76 => ?_)
      refine Ex_iload_n dX12_helps_79 rfl rfl ?_
      refine Ex_goto (t := 84) dX12_helps_80 rfl ?_
      refine Ex_istore_n (L2 := [_, _, _, _, _, _]) dX12_helps_84 rfl rfl rfl ?_
      refine Ex_iload dX12_helps_85 rfl rfl ?_
      refine Ex_if_eq (t := 101) dX12_helps_87 rfl rfl (by omega) (fun c87 => absurd c87 (by omega)) (fun c87 => ?_)
      refine Ex_aload_n dX12_helps_90 rfl rfl ?_
      refine Ex_iload_n dX12_helps_91 rfl rfl ?_
      refine Ex_inv 2 dX12_helps_92 rfl rfl (Or.inl rfl) rfl rfl rfl rfl (ma0 M) rfl rfl rfl (Ex_post (x12_passesOf M hn6 hK (by omega)) ?_)
      rintro _ _ ⟨rfl, e0⟩
      obtain rfl := Eq.symm e0
      refine Ex_iload dX12_helps_95 rfl rfl ?_
      refine Ex_imul dX12_helps_97 rfl ?_
      refine Ex_goto (t := 102) dX12_helps_98 rfl ?_
      refine Ex_istore_n (L2 := [_, _, _, _, _, _]) dX12_helps_102 rfl rfl rfl ?_
      refine Ex_iinc (L2 := [_, _, _, _, _, _]) dX12_helps_103 rfl rfl rfl ?_
      refine Ex_goto (t := 12) dX12_helps_106 rfl ?_
      exact ih (c + 1) _ _ _ _ (by omega) (by omega)
    · rw [if_neg (fun z => q1 z.2)]
      refine Ex_iload_n dX12_helps_12 rfl rfl ?_
      refine Ex_aload_n dX12_helps_13 rfl rfl ?_
      refine Ex_getf dX12_helps_14 rfl (ma0 M) rfl rfl rfl ?_
      refine Ex_icmp_ge (t := 109) dX12_helps_17 rfl rfl (by omega) (fun c17 => absurd c17 (by omega)) (fun c17 => ?_)
      refine Ex_iload_n dX12_helps_20 rfl rfl ?_
      refine Ex_if_le (t := 28) dX12_helps_21 rfl rfl (by omega) (fun c21 => absurd c21 (by omega)) (fun c21 => ?_)
      refine Ex_iconst dX12_helps_24 rfl ?_
      refine Ex_goto (t := 29) dX12_helps_25 rfl ?_
      refine Ex_iload_n dX12_helps_29 rfl rfl ?_
      refine Ex_iconst dX12_helps_30 rfl ?_
      refine Ex_iadd dX12_helps_31 rfl ?_
      refine Ex_aload_n dX12_helps_32 rfl rfl ?_
      refine Ex_getf dX12_helps_33 rfl (ma0 M) rfl rfl rfl ?_
      refine Ex_icmp_ge (t := 43) dX12_helps_36 rfl rfl (by omega) (fun c36 => ?_) (fun c36 => absurd c36 (by omega))
      refine Ex_iconst dX12_helps_43 rfl ?_
      refine Ex_iadd dX12_helps_44 rfl ?_
      refine Ex_istore (L2 := [_, _, _, _, _, _]) dX12_helps_45 rfl rfl rfl ?_
      refine Ex_aload_n dX12_helps_47 rfl rfl ?_
      refine Ex_iload_n dX12_helps_48 rfl rfl ?_
      refine Ex_inv 2 dX12_helps_49 rfl rfl (Or.inl rfl) rfl rfl rfl rfl (ma0 M) rfl rfl rfl (Ex_post (x12_isReady M hn6 hg hK (by omega)) ?_)
      rintro _ _ ⟨rfl, e0⟩
      obtain rfl := Eq.symm e0
      refine Ex_if_eq (t := 71) dX12_helps_52 rfl rfl (by first | (rw [if_pos q0]; omega) | (rw [if_neg q0]; omega)) (fun c52 => absurd c52 (by first | (rw [if_pos q0] at c52; omega) | (rw [if_neg q0] at c52; omega))) (fun c52 => ?_)
      refine Ex_aload_n dX12_helps_55 rfl rfl ?_
      refine Ex_iload_n dX12_helps_56 rfl rfl ?_
      refine Ex_inv 2 dX12_helps_57 rfl rfl (Or.inl rfl) rfl rfl rfl rfl (ma0 M) rfl rfl rfl (Ex_post (x12_passesOf M hn6 hK (by omega)) ?_)
      rintro _ _ ⟨rfl, e0⟩
      obtain rfl := Eq.symm e0
      refine Ex_iload dX12_helps_60 rfl rfl ?_
      refine Ex_imul dX12_helps_62 rfl ?_
      refine Ex_iload_n dX12_helps_63 rfl rfl ?_
      refine Ex_icmp_le (t := 71) dX12_helps_64 rfl rfl (by omega) (fun c64 => ?_) (fun c64 => absurd c64 (by omega))
      refine Ex_iconst dX12_helps_71 rfl ?_
      refine Ex_istore (L2 := [_, _, _, _, _, _]) dX12_helps_72 rfl rfl rfl ?_
      refine Ex_iload dX12_helps_74 rfl rfl ?_
      refine Ex_if_eq (t := 83) dX12_helps_76 rfl rfl (by omega) (fun c76 => ?_) (fun c76 => absurd c76 (by omega))
      refine Ex_iload_n dX12_helps_83 rfl rfl ?_
      refine Ex_istore_n (L2 := [_, _, _, _, _, _]) dX12_helps_84 rfl rfl rfl ?_
      refine Ex_iload dX12_helps_85 rfl rfl ?_
      refine Ex_if_eq (t := 101) dX12_helps_87 rfl rfl (by omega) (fun c87 => ?_) (fun c87 => absurd c87 (by omega))
      refine Ex_iload_n dX12_helps_101 rfl rfl ?_
      refine Ex_istore_n (L2 := [_, _, _, _, _, _]) dX12_helps_102 rfl rfl rfl ?_
      refine Ex_iinc (L2 := [_, _, _, _, _, _]) dX12_helps_103 rfl rfl rfl ?_
      refine Ex_goto (t := 12) dX12_helps_106 rfl ?_
      exact ih (c + 1) _ _ _ _ (by omega) (by omega)
    · rw [if_neg (fun z => q0 z.1)]
      refine Ex_iload_n dX12_helps_12 rfl rfl ?_
      refine Ex_aload_n dX12_helps_13 rfl rfl ?_
      refine Ex_getf dX12_helps_14 rfl (ma0 M) rfl rfl rfl ?_
      refine Ex_icmp_ge (t := 109) dX12_helps_17 rfl rfl (by omega) (fun c17 => absurd c17 (by omega)) (fun c17 => ?_)
      refine Ex_iload_n dX12_helps_20 rfl rfl ?_
      refine Ex_if_le (t := 28) dX12_helps_21 rfl rfl (by omega) (fun c21 => absurd c21 (by omega)) (fun c21 => ?_)
      refine Ex_iconst dX12_helps_24 rfl ?_
      refine Ex_goto (t := 29) dX12_helps_25 rfl ?_
      refine Ex_iload_n dX12_helps_29 rfl rfl ?_
      refine Ex_iconst dX12_helps_30 rfl ?_
      refine Ex_iadd dX12_helps_31 rfl ?_
      refine Ex_aload_n dX12_helps_32 rfl rfl ?_
      refine Ex_getf dX12_helps_33 rfl (ma0 M) rfl rfl rfl ?_
      refine Ex_icmp_ge (t := 43) dX12_helps_36 rfl rfl (by omega) (fun c36 => ?_) (fun c36 => absurd c36 (by omega))
      refine Ex_iconst dX12_helps_43 rfl ?_
      refine Ex_iadd dX12_helps_44 rfl ?_
      refine Ex_istore (L2 := [_, _, _, _, _, _]) dX12_helps_45 rfl rfl rfl ?_
      refine Ex_aload_n dX12_helps_47 rfl rfl ?_
      refine Ex_iload_n dX12_helps_48 rfl rfl ?_
      refine Ex_inv 2 dX12_helps_49 rfl rfl (Or.inl rfl) rfl rfl rfl rfl (ma0 M) rfl rfl rfl (Ex_post (x12_isReady M hn6 hg hK (by omega)) ?_)
      rintro _ _ ⟨rfl, e0⟩
      obtain rfl := Eq.symm e0
      refine Ex_if_eq (t := 71) dX12_helps_52 rfl rfl (by first | (rw [if_pos q0]; omega) | (rw [if_neg q0]; omega)) (fun c52 => ?_) (fun c52 => absurd c52 (by first | (rw [if_pos q0] at c52; omega) | (rw [if_neg q0] at c52; omega)))
      refine Ex_iconst dX12_helps_71 rfl ?_
      refine Ex_istore (L2 := [_, _, _, _, _, _]) dX12_helps_72 rfl rfl rfl ?_
      refine Ex_iload dX12_helps_74 rfl rfl ?_
      refine Ex_if_eq (t := 83) dX12_helps_76 rfl rfl (by omega) (fun c76 => ?_) (fun c76 => absurd c76 (by omega))
      refine Ex_iload_n dX12_helps_83 rfl rfl ?_
      refine Ex_istore_n (L2 := [_, _, _, _, _, _]) dX12_helps_84 rfl rfl rfl ?_
      refine Ex_iload dX12_helps_85 rfl rfl ?_
      refine Ex_if_eq (t := 101) dX12_helps_87 rfl rfl (by omega) (fun c87 => ?_) (fun c87 => absurd c87 (by omega))
      refine Ex_iload_n dX12_helps_101 rfl rfl ?_
      refine Ex_istore_n (L2 := [_, _, _, _, _, _]) dX12_helps_102 rfl rfl rfl ?_
      refine Ex_iinc (L2 := [_, _, _, _, _, _]) dX12_helps_103 rfl rfl rfl ?_
      refine Ex_goto (t := 12) dX12_helps_106 rfl ?_
      exact ih (c + 1) _ _ _ _ (by omega) (by omega)
    · rw [if_neg (fun z => q0 z.1)]
      refine Ex_iload_n dX12_helps_12 rfl rfl ?_
      refine Ex_aload_n dX12_helps_13 rfl rfl ?_
      refine Ex_getf dX12_helps_14 rfl (ma0 M) rfl rfl rfl ?_
      refine Ex_icmp_ge (t := 109) dX12_helps_17 rfl rfl (by omega) (fun c17 => absurd c17 (by omega)) (fun c17 => ?_)
      refine Ex_iload_n dX12_helps_20 rfl rfl ?_
      refine Ex_if_le (t := 28) dX12_helps_21 rfl rfl (by omega) (fun c21 => absurd c21 (by omega)) (fun c21 => ?_)
      refine Ex_iconst dX12_helps_24 rfl ?_
      refine Ex_goto (t := 29) dX12_helps_25 rfl ?_
      refine Ex_iload_n dX12_helps_29 rfl rfl ?_
      refine Ex_iconst dX12_helps_30 rfl ?_
      refine Ex_iadd dX12_helps_31 rfl ?_
      refine Ex_aload_n dX12_helps_32 rfl rfl ?_
      refine Ex_getf dX12_helps_33 rfl (ma0 M) rfl rfl rfl ?_
      refine Ex_icmp_ge (t := 43) dX12_helps_36 rfl rfl (by omega) (fun c36 => ?_) (fun c36 => absurd c36 (by omega))
      refine Ex_iconst dX12_helps_43 rfl ?_
      refine Ex_iadd dX12_helps_44 rfl ?_
      refine Ex_istore (L2 := [_, _, _, _, _, _]) dX12_helps_45 rfl rfl rfl ?_
      refine Ex_aload_n dX12_helps_47 rfl rfl ?_
      refine Ex_iload_n dX12_helps_48 rfl rfl ?_
      refine Ex_inv 2 dX12_helps_49 rfl rfl (Or.inl rfl) rfl rfl rfl rfl (ma0 M) rfl rfl rfl (Ex_post (x12_isReady M hn6 hg hK (by omega)) ?_)
      rintro _ _ ⟨rfl, e0⟩
      obtain rfl := Eq.symm e0
      refine Ex_if_eq (t := 71) dX12_helps_52 rfl rfl (by first | (rw [if_pos q0]; omega) | (rw [if_neg q0]; omega)) (fun c52 => ?_) (fun c52 => absurd c52 (by first | (rw [if_pos q0] at c52; omega) | (rw [if_neg q0] at c52; omega)))
      refine Ex_iconst dX12_helps_71 rfl ?_
      refine Ex_istore (L2 := [_, _, _, _, _, _]) dX12_helps_72 rfl rfl rfl ?_
      refine Ex_iload dX12_helps_74 rfl rfl ?_
      refine Ex_if_eq (t := 83) dX12_helps_76 rfl rfl (by omega) (fun c76 => ?_) (fun c76 => absurd c76 (by omega))
      refine Ex_iload_n dX12_helps_83 rfl rfl ?_
      refine Ex_istore_n (L2 := [_, _, _, _, _, _]) dX12_helps_84 rfl rfl rfl ?_
      refine Ex_iload dX12_helps_85 rfl rfl ?_
      refine Ex_if_eq (t := 101) dX12_helps_87 rfl rfl (by omega) (fun c87 => ?_) (fun c87 => absurd c87 (by omega))
      refine Ex_iload_n dX12_helps_101 rfl rfl ?_
      refine Ex_istore_n (L2 := [_, _, _, _, _, _]) dX12_helps_102 rfl rfl rfl ?_
      refine Ex_iinc (L2 := [_, _, _, _, _, _]) dX12_helps_103 rfl rfl rfl ?_
      refine Ex_goto (t := 12) dX12_helps_106 rfl ?_
      exact ih (c + 1) _ _ _ _ (by omega) (by omega)
    · rw [if_pos ⟨q0, q1⟩]
      refine Ex_iload_n dX12_helps_12 rfl rfl ?_
      refine Ex_aload_n dX12_helps_13 rfl rfl ?_
      refine Ex_getf dX12_helps_14 rfl (ma0 M) rfl rfl rfl ?_
      refine Ex_icmp_ge (t := 109) dX12_helps_17 rfl rfl (by omega) (fun c17 => absurd c17 (by omega)) (fun c17 => ?_)
      refine Ex_iload_n dX12_helps_20 rfl rfl ?_
      refine Ex_if_le (t := 28) dX12_helps_21 rfl rfl (by omega) (fun c21 => absurd c21 (by omega)) (fun c21 => ?_)
      refine Ex_iconst dX12_helps_24 rfl ?_
      refine Ex_goto (t := 29) dX12_helps_25 rfl ?_
      refine Ex_iload_n dX12_helps_29 rfl rfl ?_
      refine Ex_iconst dX12_helps_30 rfl ?_
      refine Ex_iadd dX12_helps_31 rfl ?_
      refine Ex_aload_n dX12_helps_32 rfl rfl ?_
      refine Ex_getf dX12_helps_33 rfl (ma0 M) rfl rfl rfl ?_
      refine Ex_icmp_ge (t := 43) dX12_helps_36 rfl rfl (by omega) (fun c36 => absurd c36 (by omega)) (fun c36 => ?_)
      refine Ex_iconst dX12_helps_39 rfl ?_
      refine Ex_goto (t := 44) dX12_helps_40 rfl ?_
      refine Ex_iadd dX12_helps_44 rfl ?_
      refine Ex_istore (L2 := [_, _, _, _, _, _]) dX12_helps_45 rfl rfl rfl ?_
      refine Ex_aload_n dX12_helps_47 rfl rfl ?_
      refine Ex_iload_n dX12_helps_48 rfl rfl ?_
      refine Ex_inv 2 dX12_helps_49 rfl rfl (Or.inl rfl) rfl rfl rfl rfl (ma0 M) rfl rfl rfl (Ex_post (x12_isReady M hn6 hg hK (by omega)) ?_)
      rintro _ _ ⟨rfl, e0⟩
      obtain rfl := Eq.symm e0
      refine Ex_if_eq (t := 71) dX12_helps_52 rfl rfl (by first | (rw [if_pos q0]; omega) | (rw [if_neg q0]; omega)) (fun c52 => absurd c52 (by first | (rw [if_pos q0] at c52; omega) | (rw [if_neg q0] at c52; omega))) (fun c52 => ?_)
      refine Ex_aload_n dX12_helps_55 rfl rfl ?_
      refine Ex_iload_n dX12_helps_56 rfl rfl ?_
      refine Ex_inv 2 dX12_helps_57 rfl rfl (Or.inl rfl) rfl rfl rfl rfl (ma0 M) rfl rfl rfl (Ex_post (x12_passesOf M hn6 hK (by omega)) ?_)
      rintro _ _ ⟨rfl, e0⟩
      obtain rfl := Eq.symm e0
      refine Ex_iload dX12_helps_60 rfl rfl ?_
      refine Ex_imul dX12_helps_62 rfl ?_
      refine Ex_iload_n dX12_helps_63 rfl rfl ?_
      refine Ex_icmp_le (t := 71) dX12_helps_64 rfl rfl (by omega) (fun c64 => absurd c64 (by omega)) (fun c64 => ?_)
      refine Ex_iconst dX12_helps_67 rfl ?_
      refine Ex_goto (t := 72) dX12_helps_68 rfl ?_
      refine Ex_istore (L2 := [_, _, _, _, _, _]) dX12_helps_72 rfl rfl rfl ?_
      refine Ex_iload dX12_helps_74 rfl rfl ?_
      refine Ex_if_eq (t := 83) dX12_helps_76 rfl rfl (by omega) (fun c76 => absurd c76 (by omega)) (fun c76 => ?_)
      refine Ex_iload_n dX12_helps_79 rfl rfl ?_
      refine Ex_goto (t := 84) dX12_helps_80 rfl ?_
      refine Ex_istore_n (L2 := [_, _, _, _, _, _]) dX12_helps_84 rfl rfl rfl ?_
      refine Ex_iload dX12_helps_85 rfl rfl ?_
      refine Ex_if_eq (t := 101) dX12_helps_87 rfl rfl (by omega) (fun c87 => absurd c87 (by omega)) (fun c87 => ?_)
      refine Ex_aload_n dX12_helps_90 rfl rfl ?_
      refine Ex_iload_n dX12_helps_91 rfl rfl ?_
      refine Ex_inv 2 dX12_helps_92 rfl rfl (Or.inl rfl) rfl rfl rfl rfl (ma0 M) rfl rfl rfl (Ex_post (x12_passesOf M hn6 hK (by omega)) ?_)
      rintro _ _ ⟨rfl, e0⟩
      obtain rfl := Eq.symm e0
      refine Ex_iload dX12_helps_95 rfl rfl ?_
      refine Ex_imul dX12_helps_97 rfl ?_
      refine Ex_goto (t := 102) dX12_helps_98 rfl ?_
      refine Ex_istore_n (L2 := [_, _, _, _, _, _]) dX12_helps_102 rfl rfl rfl ?_
      refine Ex_iinc (L2 := [_, _, _, _, _, _]) dX12_helps_103 rfl rfl rfl ?_
      refine Ex_goto (t := 12) dX12_helps_106 rfl ?_
      exact ih (c + 1) _ _ _ _ (by omega) (by omega)
    · rw [if_neg (fun z => q1 z.2)]
      refine Ex_iload_n dX12_helps_12 rfl rfl ?_
      refine Ex_aload_n dX12_helps_13 rfl rfl ?_
      refine Ex_getf dX12_helps_14 rfl (ma0 M) rfl rfl rfl ?_
      refine Ex_icmp_ge (t := 109) dX12_helps_17 rfl rfl (by omega) (fun c17 => absurd c17 (by omega)) (fun c17 => ?_)
      refine Ex_iload_n dX12_helps_20 rfl rfl ?_
      refine Ex_if_le (t := 28) dX12_helps_21 rfl rfl (by omega) (fun c21 => absurd c21 (by omega)) (fun c21 => ?_)
      refine Ex_iconst dX12_helps_24 rfl ?_
      refine Ex_goto (t := 29) dX12_helps_25 rfl ?_
      refine Ex_iload_n dX12_helps_29 rfl rfl ?_
      refine Ex_iconst dX12_helps_30 rfl ?_
      refine Ex_iadd dX12_helps_31 rfl ?_
      refine Ex_aload_n dX12_helps_32 rfl rfl ?_
      refine Ex_getf dX12_helps_33 rfl (ma0 M) rfl rfl rfl ?_
      refine Ex_icmp_ge (t := 43) dX12_helps_36 rfl rfl (by omega) (fun c36 => absurd c36 (by omega)) (fun c36 => ?_)
      refine Ex_iconst dX12_helps_39 rfl ?_
      refine Ex_goto (t := 44) dX12_helps_40 rfl ?_
      refine Ex_iadd dX12_helps_44 rfl ?_
      refine Ex_istore (L2 := [_, _, _, _, _, _]) dX12_helps_45 rfl rfl rfl ?_
      refine Ex_aload_n dX12_helps_47 rfl rfl ?_
      refine Ex_iload_n dX12_helps_48 rfl rfl ?_
      refine Ex_inv 2 dX12_helps_49 rfl rfl (Or.inl rfl) rfl rfl rfl rfl (ma0 M) rfl rfl rfl (Ex_post (x12_isReady M hn6 hg hK (by omega)) ?_)
      rintro _ _ ⟨rfl, e0⟩
      obtain rfl := Eq.symm e0
      refine Ex_if_eq (t := 71) dX12_helps_52 rfl rfl (by first | (rw [if_pos q0]; omega) | (rw [if_neg q0]; omega)) (fun c52 => absurd c52 (by first | (rw [if_pos q0] at c52; omega) | (rw [if_neg q0] at c52; omega))) (fun c52 => ?_)
      refine Ex_aload_n dX12_helps_55 rfl rfl ?_
      refine Ex_iload_n dX12_helps_56 rfl rfl ?_
      refine Ex_inv 2 dX12_helps_57 rfl rfl (Or.inl rfl) rfl rfl rfl rfl (ma0 M) rfl rfl rfl (Ex_post (x12_passesOf M hn6 hK (by omega)) ?_)
      rintro _ _ ⟨rfl, e0⟩
      obtain rfl := Eq.symm e0
      refine Ex_iload dX12_helps_60 rfl rfl ?_
      refine Ex_imul dX12_helps_62 rfl ?_
      refine Ex_iload_n dX12_helps_63 rfl rfl ?_
      refine Ex_icmp_le (t := 71) dX12_helps_64 rfl rfl (by omega) (fun c64 => ?_) (fun c64 => absurd c64 (by omega))
      refine Ex_iconst dX12_helps_71 rfl ?_
      refine Ex_istore (L2 := [_, _, _, _, _, _]) dX12_helps_72 rfl rfl rfl ?_
      refine Ex_iload dX12_helps_74 rfl rfl ?_
      refine Ex_if_eq (t := 83) dX12_helps_76 rfl rfl (by omega) (fun c76 => ?_) (fun c76 => absurd c76 (by omega))
      refine Ex_iload_n dX12_helps_83 rfl rfl ?_
      refine Ex_istore_n (L2 := [_, _, _, _, _, _]) dX12_helps_84 rfl rfl rfl ?_
      refine Ex_iload dX12_helps_85 rfl rfl ?_
      refine Ex_if_eq (t := 101) dX12_helps_87 rfl rfl (by omega) (fun c87 => ?_) (fun c87 => absurd c87 (by omega))
      refine Ex_iload_n dX12_helps_101 rfl rfl ?_
      refine Ex_istore_n (L2 := [_, _, _, _, _, _]) dX12_helps_102 rfl rfl rfl ?_
      refine Ex_iinc (L2 := [_, _, _, _, _, _]) dX12_helps_103 rfl rfl rfl ?_
      refine Ex_goto (t := 12) dX12_helps_106 rfl ?_
      exact ih (c + 1) _ _ _ _ (by omega) (by omega)
    · rw [if_neg (fun z => q0 z.1)]
      refine Ex_iload_n dX12_helps_12 rfl rfl ?_
      refine Ex_aload_n dX12_helps_13 rfl rfl ?_
      refine Ex_getf dX12_helps_14 rfl (ma0 M) rfl rfl rfl ?_
      refine Ex_icmp_ge (t := 109) dX12_helps_17 rfl rfl (by omega) (fun c17 => absurd c17 (by omega)) (fun c17 => ?_)
      refine Ex_iload_n dX12_helps_20 rfl rfl ?_
      refine Ex_if_le (t := 28) dX12_helps_21 rfl rfl (by omega) (fun c21 => absurd c21 (by omega)) (fun c21 => ?_)
      refine Ex_iconst dX12_helps_24 rfl ?_
      refine Ex_goto (t := 29) dX12_helps_25 rfl ?_
      refine Ex_iload_n dX12_helps_29 rfl rfl ?_
      refine Ex_iconst dX12_helps_30 rfl ?_
      refine Ex_iadd dX12_helps_31 rfl ?_
      refine Ex_aload_n dX12_helps_32 rfl rfl ?_
      refine Ex_getf dX12_helps_33 rfl (ma0 M) rfl rfl rfl ?_
      refine Ex_icmp_ge (t := 43) dX12_helps_36 rfl rfl (by omega) (fun c36 => absurd c36 (by omega)) (fun c36 => ?_)
      refine Ex_iconst dX12_helps_39 rfl ?_
      refine Ex_goto (t := 44) dX12_helps_40 rfl ?_
      refine Ex_iadd dX12_helps_44 rfl ?_
      refine Ex_istore (L2 := [_, _, _, _, _, _]) dX12_helps_45 rfl rfl rfl ?_
      refine Ex_aload_n dX12_helps_47 rfl rfl ?_
      refine Ex_iload_n dX12_helps_48 rfl rfl ?_
      refine Ex_inv 2 dX12_helps_49 rfl rfl (Or.inl rfl) rfl rfl rfl rfl (ma0 M) rfl rfl rfl (Ex_post (x12_isReady M hn6 hg hK (by omega)) ?_)
      rintro _ _ ⟨rfl, e0⟩
      obtain rfl := Eq.symm e0
      refine Ex_if_eq (t := 71) dX12_helps_52 rfl rfl (by first | (rw [if_pos q0]; omega) | (rw [if_neg q0]; omega)) (fun c52 => ?_) (fun c52 => absurd c52 (by first | (rw [if_pos q0] at c52; omega) | (rw [if_neg q0] at c52; omega)))
      refine Ex_iconst dX12_helps_71 rfl ?_
      refine Ex_istore (L2 := [_, _, _, _, _, _]) dX12_helps_72 rfl rfl rfl ?_
      refine Ex_iload dX12_helps_74 rfl rfl ?_
      refine Ex_if_eq (t := 83) dX12_helps_76 rfl rfl (by omega) (fun c76 => ?_) (fun c76 => absurd c76 (by omega))
      refine Ex_iload_n dX12_helps_83 rfl rfl ?_
      refine Ex_istore_n (L2 := [_, _, _, _, _, _]) dX12_helps_84 rfl rfl rfl ?_
      refine Ex_iload dX12_helps_85 rfl rfl ?_
      refine Ex_if_eq (t := 101) dX12_helps_87 rfl rfl (by omega) (fun c87 => ?_) (fun c87 => absurd c87 (by omega))
      refine Ex_iload_n dX12_helps_101 rfl rfl ?_
      refine Ex_istore_n (L2 := [_, _, _, _, _, _]) dX12_helps_102 rfl rfl rfl ?_
      refine Ex_iinc (L2 := [_, _, _, _, _, _]) dX12_helps_103 rfl rfl rfl ?_
      refine Ex_goto (t := 12) dX12_helps_106 rfl ?_
      exact ih (c + 1) _ _ _ _ (by omega) (by omega)
    · rw [if_neg (fun z => q0 z.1)]
      refine Ex_iload_n dX12_helps_12 rfl rfl ?_
      refine Ex_aload_n dX12_helps_13 rfl rfl ?_
      refine Ex_getf dX12_helps_14 rfl (ma0 M) rfl rfl rfl ?_
      refine Ex_icmp_ge (t := 109) dX12_helps_17 rfl rfl (by omega) (fun c17 => absurd c17 (by omega)) (fun c17 => ?_)
      refine Ex_iload_n dX12_helps_20 rfl rfl ?_
      refine Ex_if_le (t := 28) dX12_helps_21 rfl rfl (by omega) (fun c21 => absurd c21 (by omega)) (fun c21 => ?_)
      refine Ex_iconst dX12_helps_24 rfl ?_
      refine Ex_goto (t := 29) dX12_helps_25 rfl ?_
      refine Ex_iload_n dX12_helps_29 rfl rfl ?_
      refine Ex_iconst dX12_helps_30 rfl ?_
      refine Ex_iadd dX12_helps_31 rfl ?_
      refine Ex_aload_n dX12_helps_32 rfl rfl ?_
      refine Ex_getf dX12_helps_33 rfl (ma0 M) rfl rfl rfl ?_
      refine Ex_icmp_ge (t := 43) dX12_helps_36 rfl rfl (by omega) (fun c36 => absurd c36 (by omega)) (fun c36 => ?_)
      refine Ex_iconst dX12_helps_39 rfl ?_
      refine Ex_goto (t := 44) dX12_helps_40 rfl ?_
      refine Ex_iadd dX12_helps_44 rfl ?_
      refine Ex_istore (L2 := [_, _, _, _, _, _]) dX12_helps_45 rfl rfl rfl ?_
      refine Ex_aload_n dX12_helps_47 rfl rfl ?_
      refine Ex_iload_n dX12_helps_48 rfl rfl ?_
      refine Ex_inv 2 dX12_helps_49 rfl rfl (Or.inl rfl) rfl rfl rfl rfl (ma0 M) rfl rfl rfl (Ex_post (x12_isReady M hn6 hg hK (by omega)) ?_)
      rintro _ _ ⟨rfl, e0⟩
      obtain rfl := Eq.symm e0
      refine Ex_if_eq (t := 71) dX12_helps_52 rfl rfl (by first | (rw [if_pos q0]; omega) | (rw [if_neg q0]; omega)) (fun c52 => ?_) (fun c52 => absurd c52 (by first | (rw [if_pos q0] at c52; omega) | (rw [if_neg q0] at c52; omega)))
      refine Ex_iconst dX12_helps_71 rfl ?_
      refine Ex_istore (L2 := [_, _, _, _, _, _]) dX12_helps_72 rfl rfl rfl ?_
      refine Ex_iload dX12_helps_74 rfl rfl ?_
      refine Ex_if_eq (t := 83) dX12_helps_76 rfl rfl (by omega) (fun c76 => ?_) (fun c76 => absurd c76 (by omega))
      refine Ex_iload_n dX12_helps_83 rfl rfl ?_
      refine Ex_istore_n (L2 := [_, _, _, _, _, _]) dX12_helps_84 rfl rfl rfl ?_
      refine Ex_iload dX12_helps_85 rfl rfl ?_
      refine Ex_if_eq (t := 101) dX12_helps_87 rfl rfl (by omega) (fun c87 => ?_) (fun c87 => absurd c87 (by omega))
      refine Ex_iload_n dX12_helps_101 rfl rfl ?_
      refine Ex_istore_n (L2 := [_, _, _, _, _, _]) dX12_helps_102 rfl rfl rfl ?_
      refine Ex_iinc (L2 := [_, _, _, _, _, _]) dX12_helps_103 rfl rfl rfl ?_
      refine Ex_goto (t := 12) dX12_helps_106 rfl ?_
      exact ih (c + 1) _ _ _ _ (by omega) (by omega)
theorem x12_helps {E : am_E} {d : Nat} {h : Hp} {m n : Nat} {mm hi : Int} {K F T S C : Nat → Int} {σ : Nat → Nat → Int}  (I : MI h m (n, mm, K, F, T, S, C) hi σ) (hn6 : n ≤ 6) (hg : Rng n T S C) (hK : ∀ i, i < n → (0 ≤ K i ∧ K i ≤ 7) ∧ (0 ≤ F i ∧ F i ≤ 9)) (hB : E.2 ≤ m)  : Ex E (d + 3) mX12_helps 0 [.ref m, .retAddr 0, .retAddr 0, .retAddr 0, .retAddr 0, .retAddr 0] [] h (fun r1 h1 => r1 = some (.int (i32 (an_helps n K F T S 0 (-1) (-4) n))) ∧ MI h1 m (n, mm, K, F, T, S, C) hi σ ∧ Fr h h1 m (m + 23)) := by
  obtain ⟨g, ρ, kp, M, hn, h6, h23, hσ⟩ := I
  have M : MAt h m g K F T S C ρ kp := M
  have hn : g 0 = (n : Int) := hn
  have h6 : g 6 = mm := h6
  refine Ex_aload_n dX12_helps_0 rfl rfl ?_
  refine Ex_iconst dX12_helps_1 rfl ?_
  refine Ex_put12 (k0 := 13) (v := 0) dX12_helps_2 rfl (ma0 M) rfl rfl rfl rfl rfl (by omega) rfl ?_
  refine mg0 M ?_
  intro h1_ M1_ f1_
  refine Ex_bipush dX12_helps_5 rfl (by decide) ?_
  refine Ex_istore_n (L2 := [_, _, _, _, _, _]) dX12_helps_7 rfl rfl rfl ?_
  refine Ex_iconst dX12_helps_8 rfl ?_
  refine Ex_istore_n (L2 := [_, _, _, _, _, _]) dX12_helps_9 rfl rfl rfl ?_
  refine Ex_iconst dX12_helps_10 rfl ?_
  refine Ex_istore_n (L2 := [_, _, _, _, _, _]) dX12_helps_11 rfl rfl rfl ?_
  refine Ex_post (x12_helps_l M1_ hn hn6 hg hK n 0 (-1) (-4) _ _ (by omega) (by omega)) ?_
  rintro _ _ ⟨rfl, e9⟩
  rw [e9]
  exact ⟨rfl, ⟨_, _, _, M1_, hn, h6, h23, hσ⟩, f1_⟩
theorem x12_bands_l {E : am_E} {d : Nat} {h : Hp} {m n : Nat} {g K F T S C : Nat → Int} {ρ : Nat → Nat → Int} {kp : Value} {c : Nat} {a v : Int}  (M : MAt h m g K F T S C ρ kp) (hn : g 0 = (n : Int)) (hn6 : n ≤ 6) (hg : Rng n T S C) (hK : ∀ i, i < n → (0 ≤ K i ∧ K i ≤ 7) ∧ (0 ≤ F i ∧ F i ≤ 9)) (hc : c < n) (hs7 : S c < 7) (ha : 0 ≤ a ∧ a ≤ 9) (hv : 1 ≤ v ∧ v ≤ 9)  : ∀ (k : Nat) (w air : Int), w + k = 12 → 0 ≤ w → air = max 0 (a - w * v) → Ex E (d + 2) mX12_bands 59 [.ref m, .int (i32 (c : Int)), .int (i32 a), .int (i32 v), .int (i32 air), .int (i32 w)] [] h (fun r1 h1 => r1 = some (.int (i32 (bandsL (T c) (sp_needs (K c) (F c) (S c)) a v w k))) ∧ h1 = h) := by
  intro k
  induction k with
  | zero =>
    intro w air hk hw0 hair
    refine Ex_iload dX12_bands_59 rfl rfl ?_
    refine Ex_bipush dX12_bands_61 rfl (by decide) ?_
    refine Ex_icmp_ge (t := 124) dX12_bands_63 rfl rfl (by omega) (fun c63 => ?_) (fun c63 => absurd c63 (by omega))
    refine Ex_bipush dX12_bands_124 rfl (by decide) ?_
    refine Ex_iret dX12_bands_126 rfl rfl ?_
    exact ⟨rfl, rfl⟩
  | succ k ih =>
    intro w air hk hw0 hair
    have hw : 0 ≤ w ∧ w ≤ 11 := by omega
    have hgc := hg c hc
    have hKc := hK c hc
    have hnr := sp_needs_r (k := K c) hKc.2 hgc.2.1
    have hw1 : w * 1 ≤ w * v := Int.mul_le_mul_of_nonneg_left hv.1 hw.1
    have hw2 : w * v ≤ 12 * 9 := Int.mul_le_mul (by omega) (by omega) (by omega) (by omega)
    rw [Int.mul_one] at hw1
    have hw3 : (w + 1) * v = w * v + v := by rw [Int.add_mul, Int.one_mul]
    have ea : bandsL (T c) (sp_needs (K c) (F c) (S c)) a v w (k + 1) = if min 20 (T c + w) < max 0 (sp_needs (K c) (F c) (S c) - max 0 (a - w * v)) then w else if a - w * v ≤ 0 then -4 else bandsL (T c) (sp_needs (K c) (F c) (S c)) a v (w + 1) k := rfl
    rw [ea, ← hair]
    have e20 : hl (T c + w) 20 = min 20 (T c + w) := by unfold hl; rw [if_neg (by omega)]; split <;> omega
    have e99 : hl (sp_needs (K c) (F c) (S c) - air) 99 = max 0 (sp_needs (K c) (F c) (S c) - air) := by
      unfold hl
      split
      · omega
      · split <;> omega
    have e9 : hl (air - v) 9 = max 0 (a - (w + 1) * v) := by
      rw [hw3]
      unfold hl
      split
      · omega
      · split <;> omega
    obtain ⟨t9, ht9⟩ : ∃ z, z = min 20 (T c + w) := ⟨_, rfl⟩
    obtain ⟨n9, hn9⟩ : ∃ z, z = max 0 (sp_needs (K c) (F c) (S c) - air) := ⟨_, rfl⟩
    rw [← ht9] at e20 ⊢
    rw [← hn9] at e99 ⊢
    by_cases p1 : t9 < n9
    rotate_left
    by_cases p2 : a - w * v ≤ 0
    rotate_left
    · rw [if_neg p1, if_neg p2]
      refine Ex_iload dX12_bands_59 rfl rfl ?_
      refine Ex_bipush dX12_bands_61 rfl (by decide) ?_
      refine Ex_icmp_ge (t := 124) dX12_bands_63 rfl rfl (by omega) (fun c63 => absurd c63 (by omega)) (fun c63 => ?_)
      refine Ex_aload_n dX12_bands_66 rfl rfl ?_
      refine Ex_getf dX12_bands_67 rfl (ma0 M) rfl rfl rfl ?_
      refine Ex_iload_n dX12_bands_70 rfl rfl ?_
      refine Ex_iald12 dX12_bands_71 rfl (ma3 M) rfl (by omega) ?_
      refine Ex_iload dX12_bands_72 rfl rfl ?_
      refine Ex_iadd dX12_bands_74 rfl ?_
      refine Ex_bipush dX12_bands_75 rfl (by decide) ?_
      refine Ex_stat 0 dX12_bands_77 rfl rfl (Or.inl rfl) rfl rfl rfl rfl rfl rfl (Ex_post (x12_held (by omega) (by omega)) ?_)
      rintro _ _ ⟨rfl, e0⟩
      obtain rfl := Eq.symm e0
      rw [e20]
      refine Ex_aload_n dX12_bands_80 rfl rfl ?_
      refine Ex_iload_n dX12_bands_81 rfl rfl ?_
      refine Ex_inv 2 dX12_bands_82 rfl rfl (Or.inl rfl) rfl rfl rfl rfl (ma0 M) rfl rfl rfl (Ex_post (x12_needsOf M hn6 hg hK hc) ?_)
      rintro _ _ ⟨rfl, e0⟩
      obtain rfl := Eq.symm e0
      refine Ex_iload dX12_bands_85 rfl rfl ?_
      refine Ex_isub dX12_bands_87 rfl ?_
      refine Ex_bipush dX12_bands_88 rfl (by decide) ?_
      refine Ex_stat 0 dX12_bands_90 rfl rfl (Or.inl rfl) rfl rfl rfl rfl rfl rfl (Ex_post (x12_held (by omega) (by omega)) ?_)
      rintro _ _ ⟨rfl, e0⟩
      obtain rfl := Eq.symm e0
      rw [e99]
      refine Ex_icmp_ge (t := 99) dX12_bands_93 rfl rfl (by omega) (fun c93 => ?_) (fun c93 => absurd c93 (by omega))
      refine Ex_iload dX12_bands_99 rfl rfl ?_
      refine Ex_if_ne (t := 107) dX12_bands_101 rfl rfl (by omega) (fun c101 => ?_) (fun c101 => absurd c101 (by omega))
      refine Ex_iload dX12_bands_107 rfl rfl ?_
      refine Ex_iload_n dX12_bands_109 rfl rfl ?_
      refine Ex_isub dX12_bands_110 rfl ?_
      refine Ex_bipush dX12_bands_111 rfl (by decide) ?_
      refine Ex_stat 0 dX12_bands_113 rfl rfl (Or.inl rfl) rfl rfl rfl rfl rfl rfl (Ex_post (x12_held (by omega) (by omega)) ?_)
      rintro _ _ ⟨rfl, e0⟩
      obtain rfl := Eq.symm e0
      refine Ex_istore (L2 := [_, _, _, _, _, _]) dX12_bands_116 rfl rfl rfl ?_
      refine Ex_iinc (L2 := [_, _, _, _, _, _]) dX12_bands_118 rfl rfl rfl ?_
      refine Ex_goto (t := 59) dX12_bands_121 rfl ?_
      exact ih (w + 1) _ (by omega) (by omega) e9
    · rw [if_pos p1]
      refine Ex_iload dX12_bands_59 rfl rfl ?_
      refine Ex_bipush dX12_bands_61 rfl (by decide) ?_
      refine Ex_icmp_ge (t := 124) dX12_bands_63 rfl rfl (by omega) (fun c63 => absurd c63 (by omega)) (fun c63 => ?_)
      refine Ex_aload_n dX12_bands_66 rfl rfl ?_
      refine Ex_getf dX12_bands_67 rfl (ma0 M) rfl rfl rfl ?_
      refine Ex_iload_n dX12_bands_70 rfl rfl ?_
      refine Ex_iald12 dX12_bands_71 rfl (ma3 M) rfl (by omega) ?_
      refine Ex_iload dX12_bands_72 rfl rfl ?_
      refine Ex_iadd dX12_bands_74 rfl ?_
      refine Ex_bipush dX12_bands_75 rfl (by decide) ?_
      refine Ex_stat 0 dX12_bands_77 rfl rfl (Or.inl rfl) rfl rfl rfl rfl rfl rfl (Ex_post (x12_held (by omega) (by omega)) ?_)
      rintro _ _ ⟨rfl, e0⟩
      obtain rfl := Eq.symm e0
      rw [e20]
      refine Ex_aload_n dX12_bands_80 rfl rfl ?_
      refine Ex_iload_n dX12_bands_81 rfl rfl ?_
      refine Ex_inv 2 dX12_bands_82 rfl rfl (Or.inl rfl) rfl rfl rfl rfl (ma0 M) rfl rfl rfl (Ex_post (x12_needsOf M hn6 hg hK hc) ?_)
      rintro _ _ ⟨rfl, e0⟩
      obtain rfl := Eq.symm e0
      refine Ex_iload dX12_bands_85 rfl rfl ?_
      refine Ex_isub dX12_bands_87 rfl ?_
      refine Ex_bipush dX12_bands_88 rfl (by decide) ?_
      refine Ex_stat 0 dX12_bands_90 rfl rfl (Or.inl rfl) rfl rfl rfl rfl rfl rfl (Ex_post (x12_held (by omega) (by omega)) ?_)
      rintro _ _ ⟨rfl, e0⟩
      obtain rfl := Eq.symm e0
      rw [e99]
      refine Ex_icmp_ge (t := 99) dX12_bands_93 rfl rfl (by omega) (fun c93 => absurd c93 (by omega)) (fun c93 => ?_)
      refine Ex_iload dX12_bands_96 rfl rfl ?_
      refine Ex_iret dX12_bands_98 rfl rfl ?_
      exact ⟨rfl, rfl⟩
    · rw [if_neg p1, if_pos p2]
      refine Ex_iload dX12_bands_59 rfl rfl ?_
      refine Ex_bipush dX12_bands_61 rfl (by decide) ?_
      refine Ex_icmp_ge (t := 124) dX12_bands_63 rfl rfl (by omega) (fun c63 => absurd c63 (by omega)) (fun c63 => ?_)
      refine Ex_aload_n dX12_bands_66 rfl rfl ?_
      refine Ex_getf dX12_bands_67 rfl (ma0 M) rfl rfl rfl ?_
      refine Ex_iload_n dX12_bands_70 rfl rfl ?_
      refine Ex_iald12 dX12_bands_71 rfl (ma3 M) rfl (by omega) ?_
      refine Ex_iload dX12_bands_72 rfl rfl ?_
      refine Ex_iadd dX12_bands_74 rfl ?_
      refine Ex_bipush dX12_bands_75 rfl (by decide) ?_
      refine Ex_stat 0 dX12_bands_77 rfl rfl (Or.inl rfl) rfl rfl rfl rfl rfl rfl (Ex_post (x12_held (by omega) (by omega)) ?_)
      rintro _ _ ⟨rfl, e0⟩
      obtain rfl := Eq.symm e0
      rw [e20]
      refine Ex_aload_n dX12_bands_80 rfl rfl ?_
      refine Ex_iload_n dX12_bands_81 rfl rfl ?_
      refine Ex_inv 2 dX12_bands_82 rfl rfl (Or.inl rfl) rfl rfl rfl rfl (ma0 M) rfl rfl rfl (Ex_post (x12_needsOf M hn6 hg hK hc) ?_)
      rintro _ _ ⟨rfl, e0⟩
      obtain rfl := Eq.symm e0
      refine Ex_iload dX12_bands_85 rfl rfl ?_
      refine Ex_isub dX12_bands_87 rfl ?_
      refine Ex_bipush dX12_bands_88 rfl (by decide) ?_
      refine Ex_stat 0 dX12_bands_90 rfl rfl (Or.inl rfl) rfl rfl rfl rfl rfl rfl (Ex_post (x12_held (by omega) (by omega)) ?_)
      rintro _ _ ⟨rfl, e0⟩
      obtain rfl := Eq.symm e0
      rw [e99]
      refine Ex_icmp_ge (t := 99) dX12_bands_93 rfl rfl (by omega) (fun c93 => ?_) (fun c93 => absurd c93 (by omega))
      refine Ex_iload dX12_bands_99 rfl rfl ?_
      refine Ex_if_ne (t := 107) dX12_bands_101 rfl rfl (by omega) (fun c101 => absurd c101 (by omega)) (fun c101 => ?_)
      refine Ex_bipush dX12_bands_104 rfl (by decide) ?_
      refine Ex_iret dX12_bands_106 rfl rfl ?_
      exact ⟨rfl, rfl⟩
theorem x12_bands {E : am_E} {d : Nat} {h : Hp} {m n : Nat} {mm hi : Int} {K F T S C : Nat → Int} {σ : Nat → Nat → Int} {c a v : Int}  (I : MI h m (n, mm, K, F, T, S, C) hi σ) (hn6 : n ≤ 6) (hg : Rng n T S C) (hK : ∀ i, i < n → (0 ≤ K i ∧ K i ≤ 7) ∧ (0 ≤ F i ∧ F i ≤ 9)) (hB : E.2 ≤ m) (hc : (-2147483648 ≤ c ∧ c ≤ 2147483647)) (ha : (-2147483648 ≤ a ∧ a ≤ 2147483647)) (hv : (-2147483648 ≤ v ∧ v ≤ 2147483647))  : Ex E (d + 2) mX12_bands 0 [.ref m, .int (i32 c), .int (i32 a), .int (i32 v), .retAddr 0, .retAddr 0] [] h (fun r1 h1 => r1 = some (.int (i32 (an_bands n K F T S c a v))) ∧ MI h1 m (n, mm, K, F, T, S, C) hi σ ∧ Fr h h1 m (m + 23)) := by
  obtain ⟨g, ρ, kp, M, hn, h6, h23, hσ⟩ := I
  have M : MAt h m g K F T S C ρ kp := M
  have hn : g 0 = (n : Int) := hn
  have h6 : g 6 = mm := h6
  by_cases q : (0 ≤ c ∧ c < (n : Int)) ∧ (0 ≤ a ∧ a ≤ 9) ∧ (1 ≤ v ∧ v ≤ 9)
  · obtain ⟨c, rfl⟩ := Int.eq_ofNat_of_zero_le (show 0 ≤ c by omega)
    have hc : c < n := by omega
    have hgc := hg c hc
    have hKc := hK c hc
    by_cases q1 : S c = 7
    · have ea : an_bands n K F T S (c : Int) a v = -3 := by unfold an_bands; rw [if_pos q]; exact if_pos q1
      rw [ea]
      refine Ex_aload_n dX12_bands_0 rfl rfl ?_
      refine Ex_iconst dX12_bands_1 rfl ?_
      refine Ex_put12 (k0 := 13) (v := 0) dX12_bands_2 rfl (ma0 M) rfl rfl rfl rfl rfl (by omega) rfl ?_
      refine mg0 M ?_
      intro h1_ M1_ f1_
      refine Ex_aload_n dX12_bands_5 rfl rfl ?_
      refine Ex_iload_n dX12_bands_6 rfl rfl ?_
      refine Ex_inv 2 dX12_bands_7 rfl rfl (Or.inl rfl) rfl rfl rfl rfl (ma0 M1_) rfl rfl rfl (Ex_post (x12_isChild M1_ hn hn6 (by omega)) ?_)
      rintro _ _ ⟨rfl, e0⟩
      obtain rfl := Eq.symm e0
      refine Ex_if_eq (t := 37) dX12_bands_10 rfl rfl (by omega) (fun c10 => absurd c10 (by omega)) (fun c10 => ?_)
      refine Ex_iload_n dX12_bands_13 rfl rfl ?_
      refine Ex_i2l dX12_bands_14 rfl (by omega) ?_
      refine Ex_lconst (z := 0) dX12_bands_15 rfl (by decide) ?_
      refine Ex_ldc2 (z := 9) dX12_bands_16 rfl rfl ?_
      refine Ex_stat 0 dX12_bands_19 rfl rfl (Or.inl rfl) rfl rfl rfl rfl rfl rfl (Ex_post (x12_in (by omega) (by omega) (by omega)) ?_)
      rintro _ _ ⟨rfl, e0⟩
      obtain rfl := Eq.symm e0
      refine Ex_if_eq (t := 37) dX12_bands_22 rfl rfl (by omega) (fun c22 => absurd c22 (by omega)) (fun c22 => ?_)
      refine Ex_iload_n dX12_bands_25 rfl rfl ?_
      refine Ex_i2l dX12_bands_26 rfl (by omega) ?_
      refine Ex_lconst (z := 1) dX12_bands_27 rfl (by decide) ?_
      refine Ex_ldc2 (z := 9) dX12_bands_28 rfl rfl ?_
      refine Ex_stat 0 dX12_bands_31 rfl rfl (Or.inl rfl) rfl rfl rfl rfl rfl rfl (Ex_post (x12_in (by omega) (by omega) (by omega)) ?_)
      rintro _ _ ⟨rfl, e0⟩
      obtain rfl := Eq.symm e0
      refine Ex_if_ne (t := 39) dX12_bands_34 rfl rfl (by omega) (fun c34 => ?_) (fun c34 => absurd c34 (by omega))
      refine Ex_aload_n dX12_bands_39 rfl rfl ?_
      refine Ex_getf dX12_bands_40 rfl (ma0 M1_) rfl rfl rfl ?_
      refine Ex_iload_n dX12_bands_43 rfl rfl ?_
      refine Ex_iald12 dX12_bands_44 rfl (ma4 M1_) rfl (by omega) ?_
      refine Ex_bipush dX12_bands_45 rfl (by decide) ?_
      refine Ex_icmp_ne (t := 53) dX12_bands_47 rfl rfl (by omega) (fun c47 => absurd c47 (by omega)) (fun c47 => ?_)
      refine Ex_bipush dX12_bands_50 rfl (by decide) ?_
      refine Ex_iret dX12_bands_52 rfl rfl ?_
      exact ⟨rfl, ⟨_, _, _, M1_, hn, h6, h23, hσ⟩, f1_⟩
    · have ea : an_bands n K F T S (c : Int) a v = bandsL (T c) (sp_needs (K c) (F c) (S c)) a v 0 12 := by unfold an_bands; rw [if_pos q]; exact if_neg q1
      rw [ea]
      refine Ex_aload_n dX12_bands_0 rfl rfl ?_
      refine Ex_iconst dX12_bands_1 rfl ?_
      refine Ex_put12 (k0 := 13) (v := 0) dX12_bands_2 rfl (ma0 M) rfl rfl rfl rfl rfl (by omega) rfl ?_
      refine mg0 M ?_
      intro h1_ M1_ f1_
      refine Ex_aload_n dX12_bands_5 rfl rfl ?_
      refine Ex_iload_n dX12_bands_6 rfl rfl ?_
      refine Ex_inv 2 dX12_bands_7 rfl rfl (Or.inl rfl) rfl rfl rfl rfl (ma0 M1_) rfl rfl rfl (Ex_post (x12_isChild M1_ hn hn6 (by omega)) ?_)
      rintro _ _ ⟨rfl, e0⟩
      obtain rfl := Eq.symm e0
      refine Ex_if_eq (t := 37) dX12_bands_10 rfl rfl (by omega) (fun c10 => absurd c10 (by omega)) (fun c10 => ?_)
      refine Ex_iload_n dX12_bands_13 rfl rfl ?_
      refine Ex_i2l dX12_bands_14 rfl (by omega) ?_
      refine Ex_lconst (z := 0) dX12_bands_15 rfl (by decide) ?_
      refine Ex_ldc2 (z := 9) dX12_bands_16 rfl rfl ?_
      refine Ex_stat 0 dX12_bands_19 rfl rfl (Or.inl rfl) rfl rfl rfl rfl rfl rfl (Ex_post (x12_in (by omega) (by omega) (by omega)) ?_)
      rintro _ _ ⟨rfl, e0⟩
      obtain rfl := Eq.symm e0
      refine Ex_if_eq (t := 37) dX12_bands_22 rfl rfl (by omega) (fun c22 => absurd c22 (by omega)) (fun c22 => ?_)
      refine Ex_iload_n dX12_bands_25 rfl rfl ?_
      refine Ex_i2l dX12_bands_26 rfl (by omega) ?_
      refine Ex_lconst (z := 1) dX12_bands_27 rfl (by decide) ?_
      refine Ex_ldc2 (z := 9) dX12_bands_28 rfl rfl ?_
      refine Ex_stat 0 dX12_bands_31 rfl rfl (Or.inl rfl) rfl rfl rfl rfl rfl rfl (Ex_post (x12_in (by omega) (by omega) (by omega)) ?_)
      rintro _ _ ⟨rfl, e0⟩
      obtain rfl := Eq.symm e0
      refine Ex_if_ne (t := 39) dX12_bands_34 rfl rfl (by omega) (fun c34 => ?_) (fun c34 => absurd c34 (by omega))
      refine Ex_aload_n dX12_bands_39 rfl rfl ?_
      refine Ex_getf dX12_bands_40 rfl (ma0 M1_) rfl rfl rfl ?_
      refine Ex_iload_n dX12_bands_43 rfl rfl ?_
      refine Ex_iald12 dX12_bands_44 rfl (ma4 M1_) rfl (by omega) ?_
      refine Ex_bipush dX12_bands_45 rfl (by decide) ?_
      refine Ex_icmp_ne (t := 53) dX12_bands_47 rfl rfl (by omega) (fun c47 => ?_) (fun c47 => absurd c47 (by omega))
      refine Ex_iload_n dX12_bands_53 rfl rfl ?_
      refine Ex_istore (L2 := [_, _, _, _, _, _]) dX12_bands_54 rfl rfl rfl ?_
      refine Ex_iconst dX12_bands_56 rfl ?_
      refine Ex_istore (L2 := [_, _, _, _, _, _]) dX12_bands_57 rfl rfl rfl ?_
      refine Ex_post (x12_bands_l M1_ hn hn6 hg hK hc (by omega) q.2.1 q.2.2 12 0 a (by omega) (by omega) (by rw [Int.zero_mul]; omega)) ?_
      rintro _ _ ⟨rfl, e9⟩
      rw [e9]
      exact ⟨rfl, ⟨_, _, _, M1_, hn, h6, h23, hσ⟩, f1_⟩
  · refine Ex_aload_n dX12_bands_0 rfl rfl ?_
    refine Ex_iconst dX12_bands_1 rfl ?_
    refine Ex_put12 (k0 := 13) (v := 0) dX12_bands_2 rfl (ma0 M) rfl rfl rfl rfl rfl (by omega) rfl ?_
    refine mg0 M ?_
    intro h1_ M1_ f1_
    refine Ex_aload_n dX12_bands_5 rfl rfl ?_
    refine Ex_iload_n dX12_bands_6 rfl rfl ?_
    refine Ex_inv 2 dX12_bands_7 rfl rfl (Or.inl rfl) rfl rfl rfl rfl (ma0 M1_) rfl rfl rfl (Ex_post (x12_isChild M1_ hn hn6 (by omega)) ?_)
    rintro _ _ ⟨rfl, e0⟩
    obtain rfl := Eq.symm e0
    refine Ex_if_eq (t := 37) dX12_bands_10 rfl rfl (by omega) (fun c10 => ?_) (fun c10 => ?_)
    · refine Ex_iconst dX12_bands_37 rfl ?_
      refine Ex_iret dX12_bands_38 rfl rfl ?_
      exact ⟨ri (by unfold an_bands; rw [if_neg q]), ⟨_, _, _, M1_, hn, h6, h23, hσ⟩, f1_⟩
    · refine Ex_iload_n dX12_bands_13 rfl rfl ?_
      refine Ex_i2l dX12_bands_14 rfl (by omega) ?_
      refine Ex_lconst (z := 0) dX12_bands_15 rfl (by decide) ?_
      refine Ex_ldc2 (z := 9) dX12_bands_16 rfl rfl ?_
      refine Ex_stat 0 dX12_bands_19 rfl rfl (Or.inl rfl) rfl rfl rfl rfl rfl rfl (Ex_post (x12_in (by omega) (by omega) (by omega)) ?_)
      rintro _ _ ⟨rfl, e0⟩
      obtain rfl := Eq.symm e0
      refine Ex_if_eq (t := 37) dX12_bands_22 rfl rfl (by omega) (fun c22 => ?_) (fun c22 => ?_)
      · refine Ex_iconst dX12_bands_37 rfl ?_
        refine Ex_iret dX12_bands_38 rfl rfl ?_
        exact ⟨ri (by unfold an_bands; rw [if_neg q]), ⟨_, _, _, M1_, hn, h6, h23, hσ⟩, f1_⟩
      · refine Ex_iload_n dX12_bands_25 rfl rfl ?_
        refine Ex_i2l dX12_bands_26 rfl (by omega) ?_
        refine Ex_lconst (z := 1) dX12_bands_27 rfl (by decide) ?_
        refine Ex_ldc2 (z := 9) dX12_bands_28 rfl rfl ?_
        refine Ex_stat 0 dX12_bands_31 rfl rfl (Or.inl rfl) rfl rfl rfl rfl rfl rfl (Ex_post (x12_in (by omega) (by omega) (by omega)) ?_)
        rintro _ _ ⟨rfl, e0⟩
        obtain rfl := Eq.symm e0
        refine Ex_if_ne (t := 39) dX12_bands_34 rfl rfl (by omega) (fun c34 => ?_) (fun c34 => ?_)
        · exfalso; omega
        · refine Ex_iconst dX12_bands_37 rfl ?_
          refine Ex_iret dX12_bands_38 rfl rfl ?_
          exact ⟨ri (by unfold an_bands; rw [if_neg q]), ⟨_, _, _, M1_, hn, h6, h23, hσ⟩, f1_⟩
theorem x12_daresOf {E : am_E} {d : Nat} {h : Hp} {m n : Nat} {g K F T S C : Nat → Int} {ρ : Nat → Nat → Int} {kp : Value} {c : Nat} {own oth : Int}  (M : MAt h m g K F T S C ρ kp) (hn6 : n ≤ 6) (hg : Rng n T S C) (hK : ∀ i, i < n → (0 ≤ K i ∧ K i ≤ 7) ∧ (0 ≤ F i ∧ F i ≤ 9)) (hc : c < n) (ho : 0 ≤ own ∧ own ≤ 1) (ho2 : 0 ≤ oth ∧ oth ≤ 1)  : Ex E (d + 3) mX12_daresOf 0 [.ref m, .int (i32 (c : Int)), .int (i32 own), .int (i32 oth), .retAddr 0] [] h (fun r1 h1 => r1 = some (.int (i32 (dv (K c) (F c) (T c) (S c) own oth))) ∧ h1 = h) := by
  have hgc := hg c hc
  have hKc := hK c hc
  have hfr := sp_fright_r (k := K c) hKc.2
  rcases (show oth = 0 ∨ oth = 1 by omega) with e | e
  all_goals subst e
  all_goals by_cases q : own = 0
  all_goals by_cases q3 : S c = 7 ∨ (S c < 7 ∧ sp_needs (K c) (F c) (S c) ≤ T c)
  · have ea : dv (K c) (F c) (T c) (S c) own 0 = -0 := by unfold dv; rw [if_pos q]
    rw [ea]
    refine Ex_iload_n dX12_daresOf_0 rfl rfl ?_
    refine Ex_if_ne (t := 15) dX12_daresOf_1 rfl rfl (by omega) (fun c1 => absurd c1 (by omega)) (fun c1 => ?_)
    refine Ex_iload_n dX12_daresOf_4 rfl rfl ?_
    refine Ex_iconst dX12_daresOf_5 rfl ?_
    refine Ex_icmp_ne (t := 13) dX12_daresOf_6 rfl rfl (by omega) (fun c6 => ?_) (fun c6 => absurd c6 (by omega))
    refine Ex_iconst dX12_daresOf_13 rfl ?_
    refine Ex_iret dX12_daresOf_14 rfl rfl ?_
    first | exact ⟨rfl, rfl⟩ | exact ⟨ri (by omega), rfl⟩ | (exfalso; revert c31; split <;> omega) | (exfalso; omega)
  · have ea : dv (K c) (F c) (T c) (S c) own 0 = -0 := by unfold dv; rw [if_pos q]
    rw [ea]
    refine Ex_iload_n dX12_daresOf_0 rfl rfl ?_
    refine Ex_if_ne (t := 15) dX12_daresOf_1 rfl rfl (by omega) (fun c1 => absurd c1 (by omega)) (fun c1 => ?_)
    refine Ex_iload_n dX12_daresOf_4 rfl rfl ?_
    refine Ex_iconst dX12_daresOf_5 rfl ?_
    refine Ex_icmp_ne (t := 13) dX12_daresOf_6 rfl rfl (by omega) (fun c6 => ?_) (fun c6 => absurd c6 (by omega))
    refine Ex_iconst dX12_daresOf_13 rfl ?_
    refine Ex_iret dX12_daresOf_14 rfl rfl ?_
    first | exact ⟨rfl, rfl⟩ | exact ⟨ri (by omega), rfl⟩ | (exfalso; revert c31; split <;> omega) | (exfalso; omega)
  · have ea : dv (K c) (F c) (T c) (S c) own 0 = 1 + 0 - 0 := by unfold dv; rw [if_neg q, if_pos q3]
    rw [ea]
    refine Ex_iload_n dX12_daresOf_0 rfl rfl ?_
    refine Ex_if_ne (t := 15) dX12_daresOf_1 rfl rfl (by omega) (fun c1 => ?_) (fun c1 => absurd c1 (by omega))
    refine Ex_aload_n dX12_daresOf_15 rfl rfl ?_
    refine Ex_getf dX12_daresOf_16 rfl (ma0 M) rfl rfl rfl ?_
    refine Ex_iload_n dX12_daresOf_19 rfl rfl ?_
    refine Ex_iald12 dX12_daresOf_20 rfl (ma4 M) rfl (by omega) ?_
    refine Ex_bipush dX12_daresOf_21 rfl (by decide) ?_
    refine Ex_icmp_eq (t := 34) dX12_daresOf_23 rfl rfl (by omega) (fun c23 => ?_) (fun c23 => ?_)
    · refine Ex_iconst dX12_daresOf_34 rfl ?_
      refine Ex_goto (t := 39) dX12_daresOf_35 rfl ?_
      refine Ex_istore (L2 := [_, _, _, _, _]) dX12_daresOf_39 rfl rfl rfl ?_
      refine Ex_iload_n dX12_daresOf_41 rfl rfl ?_
      refine Ex_iconst dX12_daresOf_42 rfl ?_
      refine Ex_icmp_ne (t := 50) dX12_daresOf_43 rfl rfl (by omega) (fun c43 => ?_) (fun c43 => absurd c43 (by omega))
      refine Ex_iconst dX12_daresOf_50 rfl ?_
      refine Ex_iload dX12_daresOf_51 rfl rfl ?_
      refine Ex_if_eq (t := 60) dX12_daresOf_53 rfl rfl (by omega) (fun c53 => absurd c53 (by omega)) (fun c53 => ?_)
      refine Ex_iconst dX12_daresOf_56 rfl ?_
      refine Ex_goto (t := 65) dX12_daresOf_57 rfl ?_
      refine Ex_isub dX12_daresOf_65 rfl ?_
      refine Ex_iret dX12_daresOf_66 rfl rfl ?_
      first | exact ⟨rfl, rfl⟩ | exact ⟨ri (by omega), rfl⟩ | (exfalso; revert c31; split <;> omega) | (exfalso; omega)
    · refine Ex_aload_n dX12_daresOf_26 rfl rfl ?_
      refine Ex_iload_n dX12_daresOf_27 rfl rfl ?_
      refine Ex_inv 2 dX12_daresOf_28 rfl rfl (Or.inl rfl) rfl rfl rfl rfl (ma0 M) rfl rfl rfl (Ex_post (x12_isReady M hn6 hg hK hc) ?_)
      rintro _ _ ⟨rfl, e0⟩
      obtain rfl := Eq.symm e0
      refine Ex_if_eq (t := 38) dX12_daresOf_31 rfl rfl (by split <;> omega) (fun c31 => ?_) (fun c31 => ?_)
      · refine Ex_iconst dX12_daresOf_38 rfl ?_
        refine Ex_istore (L2 := [_, _, _, _, _]) dX12_daresOf_39 rfl rfl rfl ?_
        refine Ex_iload_n dX12_daresOf_41 rfl rfl ?_
        refine Ex_iconst dX12_daresOf_42 rfl ?_
        refine Ex_icmp_ne (t := 50) dX12_daresOf_43 rfl rfl (by omega) (fun c43 => ?_) (fun c43 => absurd c43 (by omega))
        refine Ex_iconst dX12_daresOf_50 rfl ?_
        refine Ex_iload dX12_daresOf_51 rfl rfl ?_
        refine Ex_if_eq (t := 60) dX12_daresOf_53 rfl rfl (by omega) (fun c53 => ?_) (fun c53 => absurd c53 (by omega))
        refine Ex_aload_n dX12_daresOf_60 rfl rfl ?_
        refine Ex_iload_n dX12_daresOf_61 rfl rfl ?_
        refine Ex_inv 2 dX12_daresOf_62 rfl rfl (Or.inl rfl) rfl rfl rfl rfl (ma0 M) rfl rfl rfl (Ex_post (x12_frightOf M hn6 hK hc) ?_)
        rintro _ _ ⟨rfl, e0⟩
        obtain rfl := Eq.symm e0
        refine Ex_isub dX12_daresOf_65 rfl ?_
        refine Ex_iret dX12_daresOf_66 rfl rfl ?_
        first | exact ⟨rfl, rfl⟩ | exact ⟨ri (by omega), rfl⟩ | (exfalso; revert c31; split <;> omega) | (exfalso; omega)
      · refine Ex_iconst dX12_daresOf_34 rfl ?_
        refine Ex_goto (t := 39) dX12_daresOf_35 rfl ?_
        refine Ex_istore (L2 := [_, _, _, _, _]) dX12_daresOf_39 rfl rfl rfl ?_
        refine Ex_iload_n dX12_daresOf_41 rfl rfl ?_
        refine Ex_iconst dX12_daresOf_42 rfl ?_
        refine Ex_icmp_ne (t := 50) dX12_daresOf_43 rfl rfl (by omega) (fun c43 => ?_) (fun c43 => absurd c43 (by omega))
        refine Ex_iconst dX12_daresOf_50 rfl ?_
        refine Ex_iload dX12_daresOf_51 rfl rfl ?_
        refine Ex_if_eq (t := 60) dX12_daresOf_53 rfl rfl (by omega) (fun c53 => absurd c53 (by omega)) (fun c53 => ?_)
        refine Ex_iconst dX12_daresOf_56 rfl ?_
        refine Ex_goto (t := 65) dX12_daresOf_57 rfl ?_
        refine Ex_isub dX12_daresOf_65 rfl ?_
        refine Ex_iret dX12_daresOf_66 rfl rfl ?_
        first | exact ⟨rfl, rfl⟩ | exact ⟨ri (by omega), rfl⟩ | (exfalso; revert c31; split <;> omega) | (exfalso; omega)
  · have ea : dv (K c) (F c) (T c) (S c) own 0 = 1 + 0 - sp_fright (K c) (F c) := by unfold dv; rw [if_neg q, if_neg q3]
    rw [ea]
    refine Ex_iload_n dX12_daresOf_0 rfl rfl ?_
    refine Ex_if_ne (t := 15) dX12_daresOf_1 rfl rfl (by omega) (fun c1 => ?_) (fun c1 => absurd c1 (by omega))
    refine Ex_aload_n dX12_daresOf_15 rfl rfl ?_
    refine Ex_getf dX12_daresOf_16 rfl (ma0 M) rfl rfl rfl ?_
    refine Ex_iload_n dX12_daresOf_19 rfl rfl ?_
    refine Ex_iald12 dX12_daresOf_20 rfl (ma4 M) rfl (by omega) ?_
    refine Ex_bipush dX12_daresOf_21 rfl (by decide) ?_
    refine Ex_icmp_eq (t := 34) dX12_daresOf_23 rfl rfl (by omega) (fun c23 => ?_) (fun c23 => ?_)
    · refine Ex_iconst dX12_daresOf_34 rfl ?_
      refine Ex_goto (t := 39) dX12_daresOf_35 rfl ?_
      refine Ex_istore (L2 := [_, _, _, _, _]) dX12_daresOf_39 rfl rfl rfl ?_
      refine Ex_iload_n dX12_daresOf_41 rfl rfl ?_
      refine Ex_iconst dX12_daresOf_42 rfl ?_
      refine Ex_icmp_ne (t := 50) dX12_daresOf_43 rfl rfl (by omega) (fun c43 => ?_) (fun c43 => absurd c43 (by omega))
      refine Ex_iconst dX12_daresOf_50 rfl ?_
      refine Ex_iload dX12_daresOf_51 rfl rfl ?_
      refine Ex_if_eq (t := 60) dX12_daresOf_53 rfl rfl (by omega) (fun c53 => absurd c53 (by omega)) (fun c53 => ?_)
      refine Ex_iconst dX12_daresOf_56 rfl ?_
      refine Ex_goto (t := 65) dX12_daresOf_57 rfl ?_
      refine Ex_isub dX12_daresOf_65 rfl ?_
      refine Ex_iret dX12_daresOf_66 rfl rfl ?_
      first | exact ⟨rfl, rfl⟩ | exact ⟨ri (by omega), rfl⟩ | (exfalso; revert c31; split <;> omega) | (exfalso; omega)
    · refine Ex_aload_n dX12_daresOf_26 rfl rfl ?_
      refine Ex_iload_n dX12_daresOf_27 rfl rfl ?_
      refine Ex_inv 2 dX12_daresOf_28 rfl rfl (Or.inl rfl) rfl rfl rfl rfl (ma0 M) rfl rfl rfl (Ex_post (x12_isReady M hn6 hg hK hc) ?_)
      rintro _ _ ⟨rfl, e0⟩
      obtain rfl := Eq.symm e0
      refine Ex_if_eq (t := 38) dX12_daresOf_31 rfl rfl (by split <;> omega) (fun c31 => ?_) (fun c31 => ?_)
      · refine Ex_iconst dX12_daresOf_38 rfl ?_
        refine Ex_istore (L2 := [_, _, _, _, _]) dX12_daresOf_39 rfl rfl rfl ?_
        refine Ex_iload_n dX12_daresOf_41 rfl rfl ?_
        refine Ex_iconst dX12_daresOf_42 rfl ?_
        refine Ex_icmp_ne (t := 50) dX12_daresOf_43 rfl rfl (by omega) (fun c43 => ?_) (fun c43 => absurd c43 (by omega))
        refine Ex_iconst dX12_daresOf_50 rfl ?_
        refine Ex_iload dX12_daresOf_51 rfl rfl ?_
        refine Ex_if_eq (t := 60) dX12_daresOf_53 rfl rfl (by omega) (fun c53 => ?_) (fun c53 => absurd c53 (by omega))
        refine Ex_aload_n dX12_daresOf_60 rfl rfl ?_
        refine Ex_iload_n dX12_daresOf_61 rfl rfl ?_
        refine Ex_inv 2 dX12_daresOf_62 rfl rfl (Or.inl rfl) rfl rfl rfl rfl (ma0 M) rfl rfl rfl (Ex_post (x12_frightOf M hn6 hK hc) ?_)
        rintro _ _ ⟨rfl, e0⟩
        obtain rfl := Eq.symm e0
        refine Ex_isub dX12_daresOf_65 rfl ?_
        refine Ex_iret dX12_daresOf_66 rfl rfl ?_
        first | exact ⟨rfl, rfl⟩ | exact ⟨ri (by omega), rfl⟩ | (exfalso; revert c31; split <;> omega) | (exfalso; omega)
      · refine Ex_iconst dX12_daresOf_34 rfl ?_
        refine Ex_goto (t := 39) dX12_daresOf_35 rfl ?_
        refine Ex_istore (L2 := [_, _, _, _, _]) dX12_daresOf_39 rfl rfl rfl ?_
        refine Ex_iload_n dX12_daresOf_41 rfl rfl ?_
        refine Ex_iconst dX12_daresOf_42 rfl ?_
        refine Ex_icmp_ne (t := 50) dX12_daresOf_43 rfl rfl (by omega) (fun c43 => ?_) (fun c43 => absurd c43 (by omega))
        refine Ex_iconst dX12_daresOf_50 rfl ?_
        refine Ex_iload dX12_daresOf_51 rfl rfl ?_
        refine Ex_if_eq (t := 60) dX12_daresOf_53 rfl rfl (by omega) (fun c53 => absurd c53 (by omega)) (fun c53 => ?_)
        refine Ex_iconst dX12_daresOf_56 rfl ?_
        refine Ex_goto (t := 65) dX12_daresOf_57 rfl ?_
        refine Ex_isub dX12_daresOf_65 rfl ?_
        refine Ex_iret dX12_daresOf_66 rfl rfl ?_
        first | exact ⟨rfl, rfl⟩ | exact ⟨ri (by omega), rfl⟩ | (exfalso; revert c31; split <;> omega) | (exfalso; omega)
  · have ea : dv (K c) (F c) (T c) (S c) own 1 = -1 := by unfold dv; rw [if_pos q]
    rw [ea]
    refine Ex_iload_n dX12_daresOf_0 rfl rfl ?_
    refine Ex_if_ne (t := 15) dX12_daresOf_1 rfl rfl (by omega) (fun c1 => absurd c1 (by omega)) (fun c1 => ?_)
    refine Ex_iload_n dX12_daresOf_4 rfl rfl ?_
    refine Ex_iconst dX12_daresOf_5 rfl ?_
    refine Ex_icmp_ne (t := 13) dX12_daresOf_6 rfl rfl (by omega) (fun c6 => absurd c6 (by omega)) (fun c6 => ?_)
    refine Ex_iconst dX12_daresOf_9 rfl ?_
    refine Ex_goto (t := 14) dX12_daresOf_10 rfl ?_
    refine Ex_iret dX12_daresOf_14 rfl rfl ?_
    first | exact ⟨rfl, rfl⟩ | exact ⟨ri (by omega), rfl⟩ | (exfalso; revert c31; split <;> omega) | (exfalso; omega)
  · have ea : dv (K c) (F c) (T c) (S c) own 1 = -1 := by unfold dv; rw [if_pos q]
    rw [ea]
    refine Ex_iload_n dX12_daresOf_0 rfl rfl ?_
    refine Ex_if_ne (t := 15) dX12_daresOf_1 rfl rfl (by omega) (fun c1 => absurd c1 (by omega)) (fun c1 => ?_)
    refine Ex_iload_n dX12_daresOf_4 rfl rfl ?_
    refine Ex_iconst dX12_daresOf_5 rfl ?_
    refine Ex_icmp_ne (t := 13) dX12_daresOf_6 rfl rfl (by omega) (fun c6 => absurd c6 (by omega)) (fun c6 => ?_)
    refine Ex_iconst dX12_daresOf_9 rfl ?_
    refine Ex_goto (t := 14) dX12_daresOf_10 rfl ?_
    refine Ex_iret dX12_daresOf_14 rfl rfl ?_
    first | exact ⟨rfl, rfl⟩ | exact ⟨ri (by omega), rfl⟩ | (exfalso; revert c31; split <;> omega) | (exfalso; omega)
  · have ea : dv (K c) (F c) (T c) (S c) own 1 = 1 + 1 - 0 := by unfold dv; rw [if_neg q, if_pos q3]
    rw [ea]
    refine Ex_iload_n dX12_daresOf_0 rfl rfl ?_
    refine Ex_if_ne (t := 15) dX12_daresOf_1 rfl rfl (by omega) (fun c1 => ?_) (fun c1 => absurd c1 (by omega))
    refine Ex_aload_n dX12_daresOf_15 rfl rfl ?_
    refine Ex_getf dX12_daresOf_16 rfl (ma0 M) rfl rfl rfl ?_
    refine Ex_iload_n dX12_daresOf_19 rfl rfl ?_
    refine Ex_iald12 dX12_daresOf_20 rfl (ma4 M) rfl (by omega) ?_
    refine Ex_bipush dX12_daresOf_21 rfl (by decide) ?_
    refine Ex_icmp_eq (t := 34) dX12_daresOf_23 rfl rfl (by omega) (fun c23 => ?_) (fun c23 => ?_)
    · refine Ex_iconst dX12_daresOf_34 rfl ?_
      refine Ex_goto (t := 39) dX12_daresOf_35 rfl ?_
      refine Ex_istore (L2 := [_, _, _, _, _]) dX12_daresOf_39 rfl rfl rfl ?_
      refine Ex_iload_n dX12_daresOf_41 rfl rfl ?_
      refine Ex_iconst dX12_daresOf_42 rfl ?_
      refine Ex_icmp_ne (t := 50) dX12_daresOf_43 rfl rfl (by omega) (fun c43 => absurd c43 (by omega)) (fun c43 => ?_)
      refine Ex_iconst dX12_daresOf_46 rfl ?_
      refine Ex_goto (t := 51) dX12_daresOf_47 rfl ?_
      refine Ex_iload dX12_daresOf_51 rfl rfl ?_
      refine Ex_if_eq (t := 60) dX12_daresOf_53 rfl rfl (by omega) (fun c53 => absurd c53 (by omega)) (fun c53 => ?_)
      refine Ex_iconst dX12_daresOf_56 rfl ?_
      refine Ex_goto (t := 65) dX12_daresOf_57 rfl ?_
      refine Ex_isub dX12_daresOf_65 rfl ?_
      refine Ex_iret dX12_daresOf_66 rfl rfl ?_
      first | exact ⟨rfl, rfl⟩ | exact ⟨ri (by omega), rfl⟩ | (exfalso; revert c31; split <;> omega) | (exfalso; omega)
    · refine Ex_aload_n dX12_daresOf_26 rfl rfl ?_
      refine Ex_iload_n dX12_daresOf_27 rfl rfl ?_
      refine Ex_inv 2 dX12_daresOf_28 rfl rfl (Or.inl rfl) rfl rfl rfl rfl (ma0 M) rfl rfl rfl (Ex_post (x12_isReady M hn6 hg hK hc) ?_)
      rintro _ _ ⟨rfl, e0⟩
      obtain rfl := Eq.symm e0
      refine Ex_if_eq (t := 38) dX12_daresOf_31 rfl rfl (by split <;> omega) (fun c31 => ?_) (fun c31 => ?_)
      · refine Ex_iconst dX12_daresOf_38 rfl ?_
        refine Ex_istore (L2 := [_, _, _, _, _]) dX12_daresOf_39 rfl rfl rfl ?_
        refine Ex_iload_n dX12_daresOf_41 rfl rfl ?_
        refine Ex_iconst dX12_daresOf_42 rfl ?_
        refine Ex_icmp_ne (t := 50) dX12_daresOf_43 rfl rfl (by omega) (fun c43 => absurd c43 (by omega)) (fun c43 => ?_)
        refine Ex_iconst dX12_daresOf_46 rfl ?_
        refine Ex_goto (t := 51) dX12_daresOf_47 rfl ?_
        refine Ex_iload dX12_daresOf_51 rfl rfl ?_
        refine Ex_if_eq (t := 60) dX12_daresOf_53 rfl rfl (by omega) (fun c53 => ?_) (fun c53 => absurd c53 (by omega))
        refine Ex_aload_n dX12_daresOf_60 rfl rfl ?_
        refine Ex_iload_n dX12_daresOf_61 rfl rfl ?_
        refine Ex_inv 2 dX12_daresOf_62 rfl rfl (Or.inl rfl) rfl rfl rfl rfl (ma0 M) rfl rfl rfl (Ex_post (x12_frightOf M hn6 hK hc) ?_)
        rintro _ _ ⟨rfl, e0⟩
        obtain rfl := Eq.symm e0
        refine Ex_isub dX12_daresOf_65 rfl ?_
        refine Ex_iret dX12_daresOf_66 rfl rfl ?_
        first | exact ⟨rfl, rfl⟩ | exact ⟨ri (by omega), rfl⟩ | (exfalso; revert c31; split <;> omega) | (exfalso; omega)
      · refine Ex_iconst dX12_daresOf_34 rfl ?_
        refine Ex_goto (t := 39) dX12_daresOf_35 rfl ?_
        refine Ex_istore (L2 := [_, _, _, _, _]) dX12_daresOf_39 rfl rfl rfl ?_
        refine Ex_iload_n dX12_daresOf_41 rfl rfl ?_
        refine Ex_iconst dX12_daresOf_42 rfl ?_
        refine Ex_icmp_ne (t := 50) dX12_daresOf_43 rfl rfl (by omega) (fun c43 => absurd c43 (by omega)) (fun c43 => ?_)
        refine Ex_iconst dX12_daresOf_46 rfl ?_
        refine Ex_goto (t := 51) dX12_daresOf_47 rfl ?_
        refine Ex_iload dX12_daresOf_51 rfl rfl ?_
        refine Ex_if_eq (t := 60) dX12_daresOf_53 rfl rfl (by omega) (fun c53 => absurd c53 (by omega)) (fun c53 => ?_)
        refine Ex_iconst dX12_daresOf_56 rfl ?_
        refine Ex_goto (t := 65) dX12_daresOf_57 rfl ?_
        refine Ex_isub dX12_daresOf_65 rfl ?_
        refine Ex_iret dX12_daresOf_66 rfl rfl ?_
        first | exact ⟨rfl, rfl⟩ | exact ⟨ri (by omega), rfl⟩ | (exfalso; revert c31; split <;> omega) | (exfalso; omega)
  · have ea : dv (K c) (F c) (T c) (S c) own 1 = 1 + 1 - sp_fright (K c) (F c) := by unfold dv; rw [if_neg q, if_neg q3]
    rw [ea]
    refine Ex_iload_n dX12_daresOf_0 rfl rfl ?_
    refine Ex_if_ne (t := 15) dX12_daresOf_1 rfl rfl (by omega) (fun c1 => ?_) (fun c1 => absurd c1 (by omega))
    refine Ex_aload_n dX12_daresOf_15 rfl rfl ?_
    refine Ex_getf dX12_daresOf_16 rfl (ma0 M) rfl rfl rfl ?_
    refine Ex_iload_n dX12_daresOf_19 rfl rfl ?_
    refine Ex_iald12 dX12_daresOf_20 rfl (ma4 M) rfl (by omega) ?_
    refine Ex_bipush dX12_daresOf_21 rfl (by decide) ?_
    refine Ex_icmp_eq (t := 34) dX12_daresOf_23 rfl rfl (by omega) (fun c23 => ?_) (fun c23 => ?_)
    · refine Ex_iconst dX12_daresOf_34 rfl ?_
      refine Ex_goto (t := 39) dX12_daresOf_35 rfl ?_
      refine Ex_istore (L2 := [_, _, _, _, _]) dX12_daresOf_39 rfl rfl rfl ?_
      refine Ex_iload_n dX12_daresOf_41 rfl rfl ?_
      refine Ex_iconst dX12_daresOf_42 rfl ?_
      refine Ex_icmp_ne (t := 50) dX12_daresOf_43 rfl rfl (by omega) (fun c43 => absurd c43 (by omega)) (fun c43 => ?_)
      refine Ex_iconst dX12_daresOf_46 rfl ?_
      refine Ex_goto (t := 51) dX12_daresOf_47 rfl ?_
      refine Ex_iload dX12_daresOf_51 rfl rfl ?_
      refine Ex_if_eq (t := 60) dX12_daresOf_53 rfl rfl (by omega) (fun c53 => absurd c53 (by omega)) (fun c53 => ?_)
      refine Ex_iconst dX12_daresOf_56 rfl ?_
      refine Ex_goto (t := 65) dX12_daresOf_57 rfl ?_
      refine Ex_isub dX12_daresOf_65 rfl ?_
      refine Ex_iret dX12_daresOf_66 rfl rfl ?_
      first | exact ⟨rfl, rfl⟩ | exact ⟨ri (by omega), rfl⟩ | (exfalso; revert c31; split <;> omega) | (exfalso; omega)
    · refine Ex_aload_n dX12_daresOf_26 rfl rfl ?_
      refine Ex_iload_n dX12_daresOf_27 rfl rfl ?_
      refine Ex_inv 2 dX12_daresOf_28 rfl rfl (Or.inl rfl) rfl rfl rfl rfl (ma0 M) rfl rfl rfl (Ex_post (x12_isReady M hn6 hg hK hc) ?_)
      rintro _ _ ⟨rfl, e0⟩
      obtain rfl := Eq.symm e0
      refine Ex_if_eq (t := 38) dX12_daresOf_31 rfl rfl (by split <;> omega) (fun c31 => ?_) (fun c31 => ?_)
      · refine Ex_iconst dX12_daresOf_38 rfl ?_
        refine Ex_istore (L2 := [_, _, _, _, _]) dX12_daresOf_39 rfl rfl rfl ?_
        refine Ex_iload_n dX12_daresOf_41 rfl rfl ?_
        refine Ex_iconst dX12_daresOf_42 rfl ?_
        refine Ex_icmp_ne (t := 50) dX12_daresOf_43 rfl rfl (by omega) (fun c43 => absurd c43 (by omega)) (fun c43 => ?_)
        refine Ex_iconst dX12_daresOf_46 rfl ?_
        refine Ex_goto (t := 51) dX12_daresOf_47 rfl ?_
        refine Ex_iload dX12_daresOf_51 rfl rfl ?_
        refine Ex_if_eq (t := 60) dX12_daresOf_53 rfl rfl (by omega) (fun c53 => ?_) (fun c53 => absurd c53 (by omega))
        refine Ex_aload_n dX12_daresOf_60 rfl rfl ?_
        refine Ex_iload_n dX12_daresOf_61 rfl rfl ?_
        refine Ex_inv 2 dX12_daresOf_62 rfl rfl (Or.inl rfl) rfl rfl rfl rfl (ma0 M) rfl rfl rfl (Ex_post (x12_frightOf M hn6 hK hc) ?_)
        rintro _ _ ⟨rfl, e0⟩
        obtain rfl := Eq.symm e0
        refine Ex_isub dX12_daresOf_65 rfl ?_
        refine Ex_iret dX12_daresOf_66 rfl rfl ?_
        first | exact ⟨rfl, rfl⟩ | exact ⟨ri (by omega), rfl⟩ | (exfalso; revert c31; split <;> omega) | (exfalso; omega)
      · refine Ex_iconst dX12_daresOf_34 rfl ?_
        refine Ex_goto (t := 39) dX12_daresOf_35 rfl ?_
        refine Ex_istore (L2 := [_, _, _, _, _]) dX12_daresOf_39 rfl rfl rfl ?_
        refine Ex_iload_n dX12_daresOf_41 rfl rfl ?_
        refine Ex_iconst dX12_daresOf_42 rfl ?_
        refine Ex_icmp_ne (t := 50) dX12_daresOf_43 rfl rfl (by omega) (fun c43 => absurd c43 (by omega)) (fun c43 => ?_)
        refine Ex_iconst dX12_daresOf_46 rfl ?_
        refine Ex_goto (t := 51) dX12_daresOf_47 rfl ?_
        refine Ex_iload dX12_daresOf_51 rfl rfl ?_
        refine Ex_if_eq (t := 60) dX12_daresOf_53 rfl rfl (by omega) (fun c53 => absurd c53 (by omega)) (fun c53 => ?_)
        refine Ex_iconst dX12_daresOf_56 rfl ?_
        refine Ex_goto (t := 65) dX12_daresOf_57 rfl ?_
        refine Ex_isub dX12_daresOf_65 rfl ?_
        refine Ex_iret dX12_daresOf_66 rfl rfl ?_
        first | exact ⟨rfl, rfl⟩ | exact ⟨ri (by omega), rfl⟩ | (exfalso; revert c31; split <;> omega) | (exfalso; omega)
theorem x12_dare_3 {E : am_E} {d : Nat} {h : Hp} {m n : Nat} {g K F T S C : Nat → Int} {ρ : Nat → Nat → Int} {kp : Value} {a b : Nat} {v4 v5 v6 : Value}  (M : MAt h m g K F T S C ρ kp) (hn : g 0 = (n : Int)) (hn6 : n ≤ 6) (hg : Rng n T S C) (hK : ∀ i, i < n → (0 ≤ K i ∧ K i ≤ 7) ∧ (0 ≤ F i ∧ F i ≤ 9)) (ha : a < n) (hb : b < n)  : Ex E (d + 4) mX12_dare 30 [.ref m, .int (i32 (a : Int)), .int (i32 (b : Int)), .int (i32 3), v4, v5, v6] [] h (fun r1 h1 => r1 = some (.int (i32 (if dr2 K F T S a b 1 1 then 11 else -4))) ∧ h1 = h) := by
  have hKa := hK a ha
  have hKb := hK b hb
  have r0 := dv_r (k := K a) (t := T a) (s := S a) (own := 1 - 1) (oth := 1) hKa.2 (by omega)
  have r1 := dv_r (k := K a) (t := T a) (s := S a) (own := 1) (oth := 1) hKa.2 (by omega)
  have r2 := dv_r (k := K b) (t := T b) (s := S b) (own := 1 - 1) (oth := 1) hKb.2 (by omega)
  have r3 := dv_r (k := K b) (t := T b) (s := S b) (own := 1) (oth := 1) hKb.2 (by omega)
  by_cases A0 : dv (K a) (F a) (T a) (S a) (1 - 1) 1 ≤ dv (K a) (F a) (T a) (S a) 1 1
  by_cases B0 : dv (K b) (F b) (T b) (S b) (1 - 1) 1 ≤ dv (K b) (F b) (T b) (S b) 1 1
  · have hd : dr2 K F T S a b 1 1 = true := by unfold dr2 dst; rw [decide_eq_true A0, decide_eq_true B0]; rfl
    rw [hd]
    refine Ex_iload_n dX12_dare_30 rfl rfl ?_
    refine Ex_iconst dX12_dare_31 rfl ?_
    refine Ex_icmp_ge (t := 118) dX12_dare_32 rfl rfl (by omega) (fun c32 => absurd c32 (by omega)) (fun c32 => ?_)
    refine Ex_iload_n dX12_dare_35 rfl rfl ?_
    refine Ex_iconst dX12_dare_36 rfl ?_
    refine Ex_idiv dX12_dare_37 rfl (by omega) (by omega) ?_
    rw [show (3 : Int) / 2 = 1 from rfl]
    refine Ex_istore (L2 := [_, _, _, _, _, _, _]) dX12_dare_38 rfl rfl rfl ?_
    refine Ex_iload_n dX12_dare_40 rfl rfl ?_
    refine Ex_iconst dX12_dare_41 rfl ?_
    refine Ex_irem dX12_dare_42 rfl (by omega) (by omega) ?_
    rw [show (3 : Int) % 2 = 1 from rfl]
    refine Ex_istore (L2 := [_, _, _, _, _, _, _]) dX12_dare_43 rfl rfl rfl ?_
    refine Ex_aload_n dX12_dare_45 rfl rfl ?_
    refine Ex_iload_n dX12_dare_46 rfl rfl ?_
    refine Ex_iconst dX12_dare_47 rfl ?_
    refine Ex_iload dX12_dare_48 rfl rfl ?_
    refine Ex_isub dX12_dare_50 rfl ?_
    refine Ex_iload dX12_dare_51 rfl rfl ?_
    refine Ex_inv 2 dX12_dare_53 rfl rfl (Or.inl rfl) rfl rfl rfl rfl (ma0 M) rfl rfl rfl (Ex_post (x12_daresOf M hn6 hg hK ha (by omega) (by omega)) ?_)
    rintro _ _ ⟨rfl, e0⟩
    obtain rfl := Eq.symm e0
    refine Ex_aload_n dX12_dare_56 rfl rfl ?_
    refine Ex_iload_n dX12_dare_57 rfl rfl ?_
    refine Ex_iload dX12_dare_58 rfl rfl ?_
    refine Ex_iload dX12_dare_60 rfl rfl ?_
    refine Ex_inv 2 dX12_dare_62 rfl rfl (Or.inl rfl) rfl rfl rfl rfl (ma0 M) rfl rfl rfl (Ex_post (x12_daresOf M hn6 hg hK ha (by omega) (by omega)) ?_)
    rintro _ _ ⟨rfl, e0⟩
    obtain rfl := Eq.symm e0
    refine Ex_icmp_gt (t := 95) dX12_dare_65 rfl rfl (by omega) (fun c65 => absurd c65 (by omega)) (fun c65 => ?_)
    refine Ex_aload_n dX12_dare_68 rfl rfl ?_
    refine Ex_iload_n dX12_dare_69 rfl rfl ?_
    refine Ex_iconst dX12_dare_70 rfl ?_
    refine Ex_iload dX12_dare_71 rfl rfl ?_
    refine Ex_isub dX12_dare_73 rfl ?_
    refine Ex_iload dX12_dare_74 rfl rfl ?_
    refine Ex_inv 2 dX12_dare_76 rfl rfl (Or.inl rfl) rfl rfl rfl rfl (ma0 M) rfl rfl rfl (Ex_post (x12_daresOf M hn6 hg hK hb (by omega) (by omega)) ?_)
    rintro _ _ ⟨rfl, e0⟩
    obtain rfl := Eq.symm e0
    refine Ex_aload_n dX12_dare_79 rfl rfl ?_
    refine Ex_iload_n dX12_dare_80 rfl rfl ?_
    refine Ex_iload dX12_dare_81 rfl rfl ?_
    refine Ex_iload dX12_dare_83 rfl rfl ?_
    refine Ex_inv 2 dX12_dare_85 rfl rfl (Or.inl rfl) rfl rfl rfl rfl (ma0 M) rfl rfl rfl (Ex_post (x12_daresOf M hn6 hg hK hb (by omega) (by omega)) ?_)
    rintro _ _ ⟨rfl, e0⟩
    obtain rfl := Eq.symm e0
    refine Ex_icmp_gt (t := 95) dX12_dare_88 rfl rfl (by omega) (fun c88 => absurd c88 (by omega)) (fun c88 => ?_)
    refine Ex_iconst dX12_dare_91 rfl ?_
    refine Ex_goto (t := 96) dX12_dare_92 rfl ?_
    refine Ex_istore (L2 := [_, _, _, _, _, _, _]) dX12_dare_96 rfl rfl rfl ?_
    refine Ex_iload dX12_dare_98 rfl rfl ?_
    refine Ex_if_eq (t := 112) dX12_dare_100 rfl rfl (by omega) (fun c100 => absurd c100 (by omega)) (fun c100 => ?_)
    refine Ex_bipush dX12_dare_103 rfl (by decide) ?_
    refine Ex_iload dX12_dare_105 rfl rfl ?_
    refine Ex_imul dX12_dare_107 rfl ?_
    refine Ex_iload dX12_dare_108 rfl rfl ?_
    refine Ex_iadd dX12_dare_110 rfl ?_
    refine Ex_iret dX12_dare_111 rfl rfl ?_
    exact ⟨rfl, rfl⟩
  · have hd : dr2 K F T S a b 1 1 = false := by unfold dr2 dst; rw [decide_eq_false B0, Bool.and_false]
    rw [hd]
    refine Ex_iload_n dX12_dare_30 rfl rfl ?_
    refine Ex_iconst dX12_dare_31 rfl ?_
    refine Ex_icmp_ge (t := 118) dX12_dare_32 rfl rfl (by omega) (fun c32 => absurd c32 (by omega)) (fun c32 => ?_)
    refine Ex_iload_n dX12_dare_35 rfl rfl ?_
    refine Ex_iconst dX12_dare_36 rfl ?_
    refine Ex_idiv dX12_dare_37 rfl (by omega) (by omega) ?_
    rw [show (3 : Int) / 2 = 1 from rfl]
    refine Ex_istore (L2 := [_, _, _, _, _, _, _]) dX12_dare_38 rfl rfl rfl ?_
    refine Ex_iload_n dX12_dare_40 rfl rfl ?_
    refine Ex_iconst dX12_dare_41 rfl ?_
    refine Ex_irem dX12_dare_42 rfl (by omega) (by omega) ?_
    rw [show (3 : Int) % 2 = 1 from rfl]
    refine Ex_istore (L2 := [_, _, _, _, _, _, _]) dX12_dare_43 rfl rfl rfl ?_
    refine Ex_aload_n dX12_dare_45 rfl rfl ?_
    refine Ex_iload_n dX12_dare_46 rfl rfl ?_
    refine Ex_iconst dX12_dare_47 rfl ?_
    refine Ex_iload dX12_dare_48 rfl rfl ?_
    refine Ex_isub dX12_dare_50 rfl ?_
    refine Ex_iload dX12_dare_51 rfl rfl ?_
    refine Ex_inv 2 dX12_dare_53 rfl rfl (Or.inl rfl) rfl rfl rfl rfl (ma0 M) rfl rfl rfl (Ex_post (x12_daresOf M hn6 hg hK ha (by omega) (by omega)) ?_)
    rintro _ _ ⟨rfl, e0⟩
    obtain rfl := Eq.symm e0
    refine Ex_aload_n dX12_dare_56 rfl rfl ?_
    refine Ex_iload_n dX12_dare_57 rfl rfl ?_
    refine Ex_iload dX12_dare_58 rfl rfl ?_
    refine Ex_iload dX12_dare_60 rfl rfl ?_
    refine Ex_inv 2 dX12_dare_62 rfl rfl (Or.inl rfl) rfl rfl rfl rfl (ma0 M) rfl rfl rfl (Ex_post (x12_daresOf M hn6 hg hK ha (by omega) (by omega)) ?_)
    rintro _ _ ⟨rfl, e0⟩
    obtain rfl := Eq.symm e0
    refine Ex_icmp_gt (t := 95) dX12_dare_65 rfl rfl (by omega) (fun c65 => absurd c65 (by omega)) (fun c65 => ?_)
    refine Ex_aload_n dX12_dare_68 rfl rfl ?_
    refine Ex_iload_n dX12_dare_69 rfl rfl ?_
    refine Ex_iconst dX12_dare_70 rfl ?_
    refine Ex_iload dX12_dare_71 rfl rfl ?_
    refine Ex_isub dX12_dare_73 rfl ?_
    refine Ex_iload dX12_dare_74 rfl rfl ?_
    refine Ex_inv 2 dX12_dare_76 rfl rfl (Or.inl rfl) rfl rfl rfl rfl (ma0 M) rfl rfl rfl (Ex_post (x12_daresOf M hn6 hg hK hb (by omega) (by omega)) ?_)
    rintro _ _ ⟨rfl, e0⟩
    obtain rfl := Eq.symm e0
    refine Ex_aload_n dX12_dare_79 rfl rfl ?_
    refine Ex_iload_n dX12_dare_80 rfl rfl ?_
    refine Ex_iload dX12_dare_81 rfl rfl ?_
    refine Ex_iload dX12_dare_83 rfl rfl ?_
    refine Ex_inv 2 dX12_dare_85 rfl rfl (Or.inl rfl) rfl rfl rfl rfl (ma0 M) rfl rfl rfl (Ex_post (x12_daresOf M hn6 hg hK hb (by omega) (by omega)) ?_)
    rintro _ _ ⟨rfl, e0⟩
    obtain rfl := Eq.symm e0
    refine Ex_icmp_gt (t := 95) dX12_dare_88 rfl rfl (by omega) (fun c88 => ?_) (fun c88 => absurd c88 (by omega))
    refine Ex_iconst dX12_dare_95 rfl ?_
    refine Ex_istore (L2 := [_, _, _, _, _, _, _]) dX12_dare_96 rfl rfl rfl ?_
    refine Ex_iload dX12_dare_98 rfl rfl ?_
    refine Ex_if_eq (t := 112) dX12_dare_100 rfl rfl (by omega) (fun c100 => ?_) (fun c100 => absurd c100 (by omega))
    refine Ex_iinc (L2 := [_, _, _, _, _, _, _]) dX12_dare_112 rfl rfl rfl ?_
    refine Ex_goto (t := 30) dX12_dare_115 rfl ?_
    refine Ex_iload_n dX12_dare_30 rfl rfl ?_
    refine Ex_iconst dX12_dare_31 rfl ?_
    refine Ex_icmp_ge (t := 118) dX12_dare_32 rfl rfl (by omega) (fun c32 => ?_) (fun c32 => absurd c32 (by omega))
    refine Ex_bipush dX12_dare_118 rfl (by decide) ?_
    refine Ex_iret dX12_dare_120 rfl rfl ?_
    exact ⟨rfl, rfl⟩
  · have hd : dr2 K F T S a b 1 1 = false := by unfold dr2 dst; rw [decide_eq_false A0, Bool.false_and]
    rw [hd]
    refine Ex_iload_n dX12_dare_30 rfl rfl ?_
    refine Ex_iconst dX12_dare_31 rfl ?_
    refine Ex_icmp_ge (t := 118) dX12_dare_32 rfl rfl (by omega) (fun c32 => absurd c32 (by omega)) (fun c32 => ?_)
    refine Ex_iload_n dX12_dare_35 rfl rfl ?_
    refine Ex_iconst dX12_dare_36 rfl ?_
    refine Ex_idiv dX12_dare_37 rfl (by omega) (by omega) ?_
    rw [show (3 : Int) / 2 = 1 from rfl]
    refine Ex_istore (L2 := [_, _, _, _, _, _, _]) dX12_dare_38 rfl rfl rfl ?_
    refine Ex_iload_n dX12_dare_40 rfl rfl ?_
    refine Ex_iconst dX12_dare_41 rfl ?_
    refine Ex_irem dX12_dare_42 rfl (by omega) (by omega) ?_
    rw [show (3 : Int) % 2 = 1 from rfl]
    refine Ex_istore (L2 := [_, _, _, _, _, _, _]) dX12_dare_43 rfl rfl rfl ?_
    refine Ex_aload_n dX12_dare_45 rfl rfl ?_
    refine Ex_iload_n dX12_dare_46 rfl rfl ?_
    refine Ex_iconst dX12_dare_47 rfl ?_
    refine Ex_iload dX12_dare_48 rfl rfl ?_
    refine Ex_isub dX12_dare_50 rfl ?_
    refine Ex_iload dX12_dare_51 rfl rfl ?_
    refine Ex_inv 2 dX12_dare_53 rfl rfl (Or.inl rfl) rfl rfl rfl rfl (ma0 M) rfl rfl rfl (Ex_post (x12_daresOf M hn6 hg hK ha (by omega) (by omega)) ?_)
    rintro _ _ ⟨rfl, e0⟩
    obtain rfl := Eq.symm e0
    refine Ex_aload_n dX12_dare_56 rfl rfl ?_
    refine Ex_iload_n dX12_dare_57 rfl rfl ?_
    refine Ex_iload dX12_dare_58 rfl rfl ?_
    refine Ex_iload dX12_dare_60 rfl rfl ?_
    refine Ex_inv 2 dX12_dare_62 rfl rfl (Or.inl rfl) rfl rfl rfl rfl (ma0 M) rfl rfl rfl (Ex_post (x12_daresOf M hn6 hg hK ha (by omega) (by omega)) ?_)
    rintro _ _ ⟨rfl, e0⟩
    obtain rfl := Eq.symm e0
    refine Ex_icmp_gt (t := 95) dX12_dare_65 rfl rfl (by omega) (fun c65 => ?_) (fun c65 => absurd c65 (by omega))
    refine Ex_iconst dX12_dare_95 rfl ?_
    refine Ex_istore (L2 := [_, _, _, _, _, _, _]) dX12_dare_96 rfl rfl rfl ?_
    refine Ex_iload dX12_dare_98 rfl rfl ?_
    refine Ex_if_eq (t := 112) dX12_dare_100 rfl rfl (by omega) (fun c100 => ?_) (fun c100 => absurd c100 (by omega))
    refine Ex_iinc (L2 := [_, _, _, _, _, _, _]) dX12_dare_112 rfl rfl rfl ?_
    refine Ex_goto (t := 30) dX12_dare_115 rfl ?_
    refine Ex_iload_n dX12_dare_30 rfl rfl ?_
    refine Ex_iconst dX12_dare_31 rfl ?_
    refine Ex_icmp_ge (t := 118) dX12_dare_32 rfl rfl (by omega) (fun c32 => ?_) (fun c32 => absurd c32 (by omega))
    refine Ex_bipush dX12_dare_118 rfl (by decide) ?_
    refine Ex_iret dX12_dare_120 rfl rfl ?_
    exact ⟨rfl, rfl⟩
theorem x12_dare_2 {E : am_E} {d : Nat} {h : Hp} {m n : Nat} {g K F T S C : Nat → Int} {ρ : Nat → Nat → Int} {kp : Value} {a b : Nat} {v4 v5 v6 : Value}  (M : MAt h m g K F T S C ρ kp) (hn : g 0 = (n : Int)) (hn6 : n ≤ 6) (hg : Rng n T S C) (hK : ∀ i, i < n → (0 ≤ K i ∧ K i ≤ 7) ∧ (0 ≤ F i ∧ F i ≤ 9)) (ha : a < n) (hb : b < n)  : Ex E (d + 4) mX12_dare 30 [.ref m, .int (i32 (a : Int)), .int (i32 (b : Int)), .int (i32 2), v4, v5, v6] [] h (fun r1 h1 => r1 = some (.int (i32 (if dr2 K F T S a b 1 0 then 10 else (if dr2 K F T S a b 1 1 then 11 else -4)))) ∧ h1 = h) := by
  have hKa := hK a ha
  have hKb := hK b hb
  have r0 := dv_r (k := K a) (t := T a) (s := S a) (own := 1 - 1) (oth := 0) hKa.2 (by omega)
  have r1 := dv_r (k := K a) (t := T a) (s := S a) (own := 1) (oth := 0) hKa.2 (by omega)
  have r2 := dv_r (k := K b) (t := T b) (s := S b) (own := 1 - 0) (oth := 1) hKb.2 (by omega)
  have r3 := dv_r (k := K b) (t := T b) (s := S b) (own := 0) (oth := 1) hKb.2 (by omega)
  by_cases A0 : dv (K a) (F a) (T a) (S a) (1 - 1) 0 ≤ dv (K a) (F a) (T a) (S a) 1 0
  by_cases B0 : dv (K b) (F b) (T b) (S b) (1 - 0) 1 ≤ dv (K b) (F b) (T b) (S b) 0 1
  · have hd : dr2 K F T S a b 1 0 = true := by unfold dr2 dst; rw [decide_eq_true A0, decide_eq_true B0]; rfl
    rw [hd]
    refine Ex_iload_n dX12_dare_30 rfl rfl ?_
    refine Ex_iconst dX12_dare_31 rfl ?_
    refine Ex_icmp_ge (t := 118) dX12_dare_32 rfl rfl (by omega) (fun c32 => absurd c32 (by omega)) (fun c32 => ?_)
    refine Ex_iload_n dX12_dare_35 rfl rfl ?_
    refine Ex_iconst dX12_dare_36 rfl ?_
    refine Ex_idiv dX12_dare_37 rfl (by omega) (by omega) ?_
    rw [show (2 : Int) / 2 = 1 from rfl]
    refine Ex_istore (L2 := [_, _, _, _, _, _, _]) dX12_dare_38 rfl rfl rfl ?_
    refine Ex_iload_n dX12_dare_40 rfl rfl ?_
    refine Ex_iconst dX12_dare_41 rfl ?_
    refine Ex_irem dX12_dare_42 rfl (by omega) (by omega) ?_
    rw [show (2 : Int) % 2 = 0 from rfl]
    refine Ex_istore (L2 := [_, _, _, _, _, _, _]) dX12_dare_43 rfl rfl rfl ?_
    refine Ex_aload_n dX12_dare_45 rfl rfl ?_
    refine Ex_iload_n dX12_dare_46 rfl rfl ?_
    refine Ex_iconst dX12_dare_47 rfl ?_
    refine Ex_iload dX12_dare_48 rfl rfl ?_
    refine Ex_isub dX12_dare_50 rfl ?_
    refine Ex_iload dX12_dare_51 rfl rfl ?_
    refine Ex_inv 2 dX12_dare_53 rfl rfl (Or.inl rfl) rfl rfl rfl rfl (ma0 M) rfl rfl rfl (Ex_post (x12_daresOf M hn6 hg hK ha (by omega) (by omega)) ?_)
    rintro _ _ ⟨rfl, e0⟩
    obtain rfl := Eq.symm e0
    refine Ex_aload_n dX12_dare_56 rfl rfl ?_
    refine Ex_iload_n dX12_dare_57 rfl rfl ?_
    refine Ex_iload dX12_dare_58 rfl rfl ?_
    refine Ex_iload dX12_dare_60 rfl rfl ?_
    refine Ex_inv 2 dX12_dare_62 rfl rfl (Or.inl rfl) rfl rfl rfl rfl (ma0 M) rfl rfl rfl (Ex_post (x12_daresOf M hn6 hg hK ha (by omega) (by omega)) ?_)
    rintro _ _ ⟨rfl, e0⟩
    obtain rfl := Eq.symm e0
    refine Ex_icmp_gt (t := 95) dX12_dare_65 rfl rfl (by omega) (fun c65 => absurd c65 (by omega)) (fun c65 => ?_)
    refine Ex_aload_n dX12_dare_68 rfl rfl ?_
    refine Ex_iload_n dX12_dare_69 rfl rfl ?_
    refine Ex_iconst dX12_dare_70 rfl ?_
    refine Ex_iload dX12_dare_71 rfl rfl ?_
    refine Ex_isub dX12_dare_73 rfl ?_
    refine Ex_iload dX12_dare_74 rfl rfl ?_
    refine Ex_inv 2 dX12_dare_76 rfl rfl (Or.inl rfl) rfl rfl rfl rfl (ma0 M) rfl rfl rfl (Ex_post (x12_daresOf M hn6 hg hK hb (by omega) (by omega)) ?_)
    rintro _ _ ⟨rfl, e0⟩
    obtain rfl := Eq.symm e0
    refine Ex_aload_n dX12_dare_79 rfl rfl ?_
    refine Ex_iload_n dX12_dare_80 rfl rfl ?_
    refine Ex_iload dX12_dare_81 rfl rfl ?_
    refine Ex_iload dX12_dare_83 rfl rfl ?_
    refine Ex_inv 2 dX12_dare_85 rfl rfl (Or.inl rfl) rfl rfl rfl rfl (ma0 M) rfl rfl rfl (Ex_post (x12_daresOf M hn6 hg hK hb (by omega) (by omega)) ?_)
    rintro _ _ ⟨rfl, e0⟩
    obtain rfl := Eq.symm e0
    refine Ex_icmp_gt (t := 95) dX12_dare_88 rfl rfl (by omega) (fun c88 => absurd c88 (by omega)) (fun c88 => ?_)
    refine Ex_iconst dX12_dare_91 rfl ?_
    refine Ex_goto (t := 96) dX12_dare_92 rfl ?_
    refine Ex_istore (L2 := [_, _, _, _, _, _, _]) dX12_dare_96 rfl rfl rfl ?_
    refine Ex_iload dX12_dare_98 rfl rfl ?_
    refine Ex_if_eq (t := 112) dX12_dare_100 rfl rfl (by omega) (fun c100 => absurd c100 (by omega)) (fun c100 => ?_)
    refine Ex_bipush dX12_dare_103 rfl (by decide) ?_
    refine Ex_iload dX12_dare_105 rfl rfl ?_
    refine Ex_imul dX12_dare_107 rfl ?_
    refine Ex_iload dX12_dare_108 rfl rfl ?_
    refine Ex_iadd dX12_dare_110 rfl ?_
    refine Ex_iret dX12_dare_111 rfl rfl ?_
    exact ⟨rfl, rfl⟩
  · have hd : dr2 K F T S a b 1 0 = false := by unfold dr2 dst; rw [decide_eq_false B0, Bool.and_false]
    rw [hd]
    refine Ex_iload_n dX12_dare_30 rfl rfl ?_
    refine Ex_iconst dX12_dare_31 rfl ?_
    refine Ex_icmp_ge (t := 118) dX12_dare_32 rfl rfl (by omega) (fun c32 => absurd c32 (by omega)) (fun c32 => ?_)
    refine Ex_iload_n dX12_dare_35 rfl rfl ?_
    refine Ex_iconst dX12_dare_36 rfl ?_
    refine Ex_idiv dX12_dare_37 rfl (by omega) (by omega) ?_
    rw [show (2 : Int) / 2 = 1 from rfl]
    refine Ex_istore (L2 := [_, _, _, _, _, _, _]) dX12_dare_38 rfl rfl rfl ?_
    refine Ex_iload_n dX12_dare_40 rfl rfl ?_
    refine Ex_iconst dX12_dare_41 rfl ?_
    refine Ex_irem dX12_dare_42 rfl (by omega) (by omega) ?_
    rw [show (2 : Int) % 2 = 0 from rfl]
    refine Ex_istore (L2 := [_, _, _, _, _, _, _]) dX12_dare_43 rfl rfl rfl ?_
    refine Ex_aload_n dX12_dare_45 rfl rfl ?_
    refine Ex_iload_n dX12_dare_46 rfl rfl ?_
    refine Ex_iconst dX12_dare_47 rfl ?_
    refine Ex_iload dX12_dare_48 rfl rfl ?_
    refine Ex_isub dX12_dare_50 rfl ?_
    refine Ex_iload dX12_dare_51 rfl rfl ?_
    refine Ex_inv 2 dX12_dare_53 rfl rfl (Or.inl rfl) rfl rfl rfl rfl (ma0 M) rfl rfl rfl (Ex_post (x12_daresOf M hn6 hg hK ha (by omega) (by omega)) ?_)
    rintro _ _ ⟨rfl, e0⟩
    obtain rfl := Eq.symm e0
    refine Ex_aload_n dX12_dare_56 rfl rfl ?_
    refine Ex_iload_n dX12_dare_57 rfl rfl ?_
    refine Ex_iload dX12_dare_58 rfl rfl ?_
    refine Ex_iload dX12_dare_60 rfl rfl ?_
    refine Ex_inv 2 dX12_dare_62 rfl rfl (Or.inl rfl) rfl rfl rfl rfl (ma0 M) rfl rfl rfl (Ex_post (x12_daresOf M hn6 hg hK ha (by omega) (by omega)) ?_)
    rintro _ _ ⟨rfl, e0⟩
    obtain rfl := Eq.symm e0
    refine Ex_icmp_gt (t := 95) dX12_dare_65 rfl rfl (by omega) (fun c65 => absurd c65 (by omega)) (fun c65 => ?_)
    refine Ex_aload_n dX12_dare_68 rfl rfl ?_
    refine Ex_iload_n dX12_dare_69 rfl rfl ?_
    refine Ex_iconst dX12_dare_70 rfl ?_
    refine Ex_iload dX12_dare_71 rfl rfl ?_
    refine Ex_isub dX12_dare_73 rfl ?_
    refine Ex_iload dX12_dare_74 rfl rfl ?_
    refine Ex_inv 2 dX12_dare_76 rfl rfl (Or.inl rfl) rfl rfl rfl rfl (ma0 M) rfl rfl rfl (Ex_post (x12_daresOf M hn6 hg hK hb (by omega) (by omega)) ?_)
    rintro _ _ ⟨rfl, e0⟩
    obtain rfl := Eq.symm e0
    refine Ex_aload_n dX12_dare_79 rfl rfl ?_
    refine Ex_iload_n dX12_dare_80 rfl rfl ?_
    refine Ex_iload dX12_dare_81 rfl rfl ?_
    refine Ex_iload dX12_dare_83 rfl rfl ?_
    refine Ex_inv 2 dX12_dare_85 rfl rfl (Or.inl rfl) rfl rfl rfl rfl (ma0 M) rfl rfl rfl (Ex_post (x12_daresOf M hn6 hg hK hb (by omega) (by omega)) ?_)
    rintro _ _ ⟨rfl, e0⟩
    obtain rfl := Eq.symm e0
    refine Ex_icmp_gt (t := 95) dX12_dare_88 rfl rfl (by omega) (fun c88 => ?_) (fun c88 => absurd c88 (by omega))
    refine Ex_iconst dX12_dare_95 rfl ?_
    refine Ex_istore (L2 := [_, _, _, _, _, _, _]) dX12_dare_96 rfl rfl rfl ?_
    refine Ex_iload dX12_dare_98 rfl rfl ?_
    refine Ex_if_eq (t := 112) dX12_dare_100 rfl rfl (by omega) (fun c100 => ?_) (fun c100 => absurd c100 (by omega))
    refine Ex_iinc (L2 := [_, _, _, _, _, _, _]) dX12_dare_112 rfl rfl rfl ?_
    refine Ex_goto (t := 30) dX12_dare_115 rfl ?_
    exact x12_dare_3 M hn hn6 hg hK ha hb
  · have hd : dr2 K F T S a b 1 0 = false := by unfold dr2 dst; rw [decide_eq_false A0, Bool.false_and]
    rw [hd]
    refine Ex_iload_n dX12_dare_30 rfl rfl ?_
    refine Ex_iconst dX12_dare_31 rfl ?_
    refine Ex_icmp_ge (t := 118) dX12_dare_32 rfl rfl (by omega) (fun c32 => absurd c32 (by omega)) (fun c32 => ?_)
    refine Ex_iload_n dX12_dare_35 rfl rfl ?_
    refine Ex_iconst dX12_dare_36 rfl ?_
    refine Ex_idiv dX12_dare_37 rfl (by omega) (by omega) ?_
    rw [show (2 : Int) / 2 = 1 from rfl]
    refine Ex_istore (L2 := [_, _, _, _, _, _, _]) dX12_dare_38 rfl rfl rfl ?_
    refine Ex_iload_n dX12_dare_40 rfl rfl ?_
    refine Ex_iconst dX12_dare_41 rfl ?_
    refine Ex_irem dX12_dare_42 rfl (by omega) (by omega) ?_
    rw [show (2 : Int) % 2 = 0 from rfl]
    refine Ex_istore (L2 := [_, _, _, _, _, _, _]) dX12_dare_43 rfl rfl rfl ?_
    refine Ex_aload_n dX12_dare_45 rfl rfl ?_
    refine Ex_iload_n dX12_dare_46 rfl rfl ?_
    refine Ex_iconst dX12_dare_47 rfl ?_
    refine Ex_iload dX12_dare_48 rfl rfl ?_
    refine Ex_isub dX12_dare_50 rfl ?_
    refine Ex_iload dX12_dare_51 rfl rfl ?_
    refine Ex_inv 2 dX12_dare_53 rfl rfl (Or.inl rfl) rfl rfl rfl rfl (ma0 M) rfl rfl rfl (Ex_post (x12_daresOf M hn6 hg hK ha (by omega) (by omega)) ?_)
    rintro _ _ ⟨rfl, e0⟩
    obtain rfl := Eq.symm e0
    refine Ex_aload_n dX12_dare_56 rfl rfl ?_
    refine Ex_iload_n dX12_dare_57 rfl rfl ?_
    refine Ex_iload dX12_dare_58 rfl rfl ?_
    refine Ex_iload dX12_dare_60 rfl rfl ?_
    refine Ex_inv 2 dX12_dare_62 rfl rfl (Or.inl rfl) rfl rfl rfl rfl (ma0 M) rfl rfl rfl (Ex_post (x12_daresOf M hn6 hg hK ha (by omega) (by omega)) ?_)
    rintro _ _ ⟨rfl, e0⟩
    obtain rfl := Eq.symm e0
    refine Ex_icmp_gt (t := 95) dX12_dare_65 rfl rfl (by omega) (fun c65 => ?_) (fun c65 => absurd c65 (by omega))
    refine Ex_iconst dX12_dare_95 rfl ?_
    refine Ex_istore (L2 := [_, _, _, _, _, _, _]) dX12_dare_96 rfl rfl rfl ?_
    refine Ex_iload dX12_dare_98 rfl rfl ?_
    refine Ex_if_eq (t := 112) dX12_dare_100 rfl rfl (by omega) (fun c100 => ?_) (fun c100 => absurd c100 (by omega))
    refine Ex_iinc (L2 := [_, _, _, _, _, _, _]) dX12_dare_112 rfl rfl rfl ?_
    refine Ex_goto (t := 30) dX12_dare_115 rfl ?_
    exact x12_dare_3 M hn hn6 hg hK ha hb
theorem x12_dare_1 {E : am_E} {d : Nat} {h : Hp} {m n : Nat} {g K F T S C : Nat → Int} {ρ : Nat → Nat → Int} {kp : Value} {a b : Nat} {v4 v5 v6 : Value}  (M : MAt h m g K F T S C ρ kp) (hn : g 0 = (n : Int)) (hn6 : n ≤ 6) (hg : Rng n T S C) (hK : ∀ i, i < n → (0 ≤ K i ∧ K i ≤ 7) ∧ (0 ≤ F i ∧ F i ≤ 9)) (ha : a < n) (hb : b < n)  : Ex E (d + 4) mX12_dare 30 [.ref m, .int (i32 (a : Int)), .int (i32 (b : Int)), .int (i32 1), v4, v5, v6] [] h (fun r1 h1 => r1 = some (.int (i32 (if dr2 K F T S a b 0 1 then 1 else (if dr2 K F T S a b 1 0 then 10 else (if dr2 K F T S a b 1 1 then 11 else -4))))) ∧ h1 = h) := by
  have hKa := hK a ha
  have hKb := hK b hb
  have r0 := dv_r (k := K a) (t := T a) (s := S a) (own := 1 - 0) (oth := 1) hKa.2 (by omega)
  have r1 := dv_r (k := K a) (t := T a) (s := S a) (own := 0) (oth := 1) hKa.2 (by omega)
  have r2 := dv_r (k := K b) (t := T b) (s := S b) (own := 1 - 1) (oth := 0) hKb.2 (by omega)
  have r3 := dv_r (k := K b) (t := T b) (s := S b) (own := 1) (oth := 0) hKb.2 (by omega)
  by_cases A0 : dv (K a) (F a) (T a) (S a) (1 - 0) 1 ≤ dv (K a) (F a) (T a) (S a) 0 1
  by_cases B0 : dv (K b) (F b) (T b) (S b) (1 - 1) 0 ≤ dv (K b) (F b) (T b) (S b) 1 0
  · have hd : dr2 K F T S a b 0 1 = true := by unfold dr2 dst; rw [decide_eq_true A0, decide_eq_true B0]; rfl
    rw [hd]
    refine Ex_iload_n dX12_dare_30 rfl rfl ?_
    refine Ex_iconst dX12_dare_31 rfl ?_
    refine Ex_icmp_ge (t := 118) dX12_dare_32 rfl rfl (by omega) (fun c32 => absurd c32 (by omega)) (fun c32 => ?_)
    refine Ex_iload_n dX12_dare_35 rfl rfl ?_
    refine Ex_iconst dX12_dare_36 rfl ?_
    refine Ex_idiv dX12_dare_37 rfl (by omega) (by omega) ?_
    rw [show (1 : Int) / 2 = 0 from rfl]
    refine Ex_istore (L2 := [_, _, _, _, _, _, _]) dX12_dare_38 rfl rfl rfl ?_
    refine Ex_iload_n dX12_dare_40 rfl rfl ?_
    refine Ex_iconst dX12_dare_41 rfl ?_
    refine Ex_irem dX12_dare_42 rfl (by omega) (by omega) ?_
    rw [show (1 : Int) % 2 = 1 from rfl]
    refine Ex_istore (L2 := [_, _, _, _, _, _, _]) dX12_dare_43 rfl rfl rfl ?_
    refine Ex_aload_n dX12_dare_45 rfl rfl ?_
    refine Ex_iload_n dX12_dare_46 rfl rfl ?_
    refine Ex_iconst dX12_dare_47 rfl ?_
    refine Ex_iload dX12_dare_48 rfl rfl ?_
    refine Ex_isub dX12_dare_50 rfl ?_
    refine Ex_iload dX12_dare_51 rfl rfl ?_
    refine Ex_inv 2 dX12_dare_53 rfl rfl (Or.inl rfl) rfl rfl rfl rfl (ma0 M) rfl rfl rfl (Ex_post (x12_daresOf M hn6 hg hK ha (by omega) (by omega)) ?_)
    rintro _ _ ⟨rfl, e0⟩
    obtain rfl := Eq.symm e0
    refine Ex_aload_n dX12_dare_56 rfl rfl ?_
    refine Ex_iload_n dX12_dare_57 rfl rfl ?_
    refine Ex_iload dX12_dare_58 rfl rfl ?_
    refine Ex_iload dX12_dare_60 rfl rfl ?_
    refine Ex_inv 2 dX12_dare_62 rfl rfl (Or.inl rfl) rfl rfl rfl rfl (ma0 M) rfl rfl rfl (Ex_post (x12_daresOf M hn6 hg hK ha (by omega) (by omega)) ?_)
    rintro _ _ ⟨rfl, e0⟩
    obtain rfl := Eq.symm e0
    refine Ex_icmp_gt (t := 95) dX12_dare_65 rfl rfl (by omega) (fun c65 => absurd c65 (by omega)) (fun c65 => ?_)
    refine Ex_aload_n dX12_dare_68 rfl rfl ?_
    refine Ex_iload_n dX12_dare_69 rfl rfl ?_
    refine Ex_iconst dX12_dare_70 rfl ?_
    refine Ex_iload dX12_dare_71 rfl rfl ?_
    refine Ex_isub dX12_dare_73 rfl ?_
    refine Ex_iload dX12_dare_74 rfl rfl ?_
    refine Ex_inv 2 dX12_dare_76 rfl rfl (Or.inl rfl) rfl rfl rfl rfl (ma0 M) rfl rfl rfl (Ex_post (x12_daresOf M hn6 hg hK hb (by omega) (by omega)) ?_)
    rintro _ _ ⟨rfl, e0⟩
    obtain rfl := Eq.symm e0
    refine Ex_aload_n dX12_dare_79 rfl rfl ?_
    refine Ex_iload_n dX12_dare_80 rfl rfl ?_
    refine Ex_iload dX12_dare_81 rfl rfl ?_
    refine Ex_iload dX12_dare_83 rfl rfl ?_
    refine Ex_inv 2 dX12_dare_85 rfl rfl (Or.inl rfl) rfl rfl rfl rfl (ma0 M) rfl rfl rfl (Ex_post (x12_daresOf M hn6 hg hK hb (by omega) (by omega)) ?_)
    rintro _ _ ⟨rfl, e0⟩
    obtain rfl := Eq.symm e0
    refine Ex_icmp_gt (t := 95) dX12_dare_88 rfl rfl (by omega) (fun c88 => absurd c88 (by omega)) (fun c88 => ?_)
    refine Ex_iconst dX12_dare_91 rfl ?_
    refine Ex_goto (t := 96) dX12_dare_92 rfl ?_
    refine Ex_istore (L2 := [_, _, _, _, _, _, _]) dX12_dare_96 rfl rfl rfl ?_
    refine Ex_iload dX12_dare_98 rfl rfl ?_
    refine Ex_if_eq (t := 112) dX12_dare_100 rfl rfl (by omega) (fun c100 => absurd c100 (by omega)) (fun c100 => ?_)
    refine Ex_bipush dX12_dare_103 rfl (by decide) ?_
    refine Ex_iload dX12_dare_105 rfl rfl ?_
    refine Ex_imul dX12_dare_107 rfl ?_
    refine Ex_iload dX12_dare_108 rfl rfl ?_
    refine Ex_iadd dX12_dare_110 rfl ?_
    refine Ex_iret dX12_dare_111 rfl rfl ?_
    exact ⟨rfl, rfl⟩
  · have hd : dr2 K F T S a b 0 1 = false := by unfold dr2 dst; rw [decide_eq_false B0, Bool.and_false]
    rw [hd]
    refine Ex_iload_n dX12_dare_30 rfl rfl ?_
    refine Ex_iconst dX12_dare_31 rfl ?_
    refine Ex_icmp_ge (t := 118) dX12_dare_32 rfl rfl (by omega) (fun c32 => absurd c32 (by omega)) (fun c32 => ?_)
    refine Ex_iload_n dX12_dare_35 rfl rfl ?_
    refine Ex_iconst dX12_dare_36 rfl ?_
    refine Ex_idiv dX12_dare_37 rfl (by omega) (by omega) ?_
    rw [show (1 : Int) / 2 = 0 from rfl]
    refine Ex_istore (L2 := [_, _, _, _, _, _, _]) dX12_dare_38 rfl rfl rfl ?_
    refine Ex_iload_n dX12_dare_40 rfl rfl ?_
    refine Ex_iconst dX12_dare_41 rfl ?_
    refine Ex_irem dX12_dare_42 rfl (by omega) (by omega) ?_
    rw [show (1 : Int) % 2 = 1 from rfl]
    refine Ex_istore (L2 := [_, _, _, _, _, _, _]) dX12_dare_43 rfl rfl rfl ?_
    refine Ex_aload_n dX12_dare_45 rfl rfl ?_
    refine Ex_iload_n dX12_dare_46 rfl rfl ?_
    refine Ex_iconst dX12_dare_47 rfl ?_
    refine Ex_iload dX12_dare_48 rfl rfl ?_
    refine Ex_isub dX12_dare_50 rfl ?_
    refine Ex_iload dX12_dare_51 rfl rfl ?_
    refine Ex_inv 2 dX12_dare_53 rfl rfl (Or.inl rfl) rfl rfl rfl rfl (ma0 M) rfl rfl rfl (Ex_post (x12_daresOf M hn6 hg hK ha (by omega) (by omega)) ?_)
    rintro _ _ ⟨rfl, e0⟩
    obtain rfl := Eq.symm e0
    refine Ex_aload_n dX12_dare_56 rfl rfl ?_
    refine Ex_iload_n dX12_dare_57 rfl rfl ?_
    refine Ex_iload dX12_dare_58 rfl rfl ?_
    refine Ex_iload dX12_dare_60 rfl rfl ?_
    refine Ex_inv 2 dX12_dare_62 rfl rfl (Or.inl rfl) rfl rfl rfl rfl (ma0 M) rfl rfl rfl (Ex_post (x12_daresOf M hn6 hg hK ha (by omega) (by omega)) ?_)
    rintro _ _ ⟨rfl, e0⟩
    obtain rfl := Eq.symm e0
    refine Ex_icmp_gt (t := 95) dX12_dare_65 rfl rfl (by omega) (fun c65 => absurd c65 (by omega)) (fun c65 => ?_)
    refine Ex_aload_n dX12_dare_68 rfl rfl ?_
    refine Ex_iload_n dX12_dare_69 rfl rfl ?_
    refine Ex_iconst dX12_dare_70 rfl ?_
    refine Ex_iload dX12_dare_71 rfl rfl ?_
    refine Ex_isub dX12_dare_73 rfl ?_
    refine Ex_iload dX12_dare_74 rfl rfl ?_
    refine Ex_inv 2 dX12_dare_76 rfl rfl (Or.inl rfl) rfl rfl rfl rfl (ma0 M) rfl rfl rfl (Ex_post (x12_daresOf M hn6 hg hK hb (by omega) (by omega)) ?_)
    rintro _ _ ⟨rfl, e0⟩
    obtain rfl := Eq.symm e0
    refine Ex_aload_n dX12_dare_79 rfl rfl ?_
    refine Ex_iload_n dX12_dare_80 rfl rfl ?_
    refine Ex_iload dX12_dare_81 rfl rfl ?_
    refine Ex_iload dX12_dare_83 rfl rfl ?_
    refine Ex_inv 2 dX12_dare_85 rfl rfl (Or.inl rfl) rfl rfl rfl rfl (ma0 M) rfl rfl rfl (Ex_post (x12_daresOf M hn6 hg hK hb (by omega) (by omega)) ?_)
    rintro _ _ ⟨rfl, e0⟩
    obtain rfl := Eq.symm e0
    refine Ex_icmp_gt (t := 95) dX12_dare_88 rfl rfl (by omega) (fun c88 => ?_) (fun c88 => absurd c88 (by omega))
    refine Ex_iconst dX12_dare_95 rfl ?_
    refine Ex_istore (L2 := [_, _, _, _, _, _, _]) dX12_dare_96 rfl rfl rfl ?_
    refine Ex_iload dX12_dare_98 rfl rfl ?_
    refine Ex_if_eq (t := 112) dX12_dare_100 rfl rfl (by omega) (fun c100 => ?_) (fun c100 => absurd c100 (by omega))
    refine Ex_iinc (L2 := [_, _, _, _, _, _, _]) dX12_dare_112 rfl rfl rfl ?_
    refine Ex_goto (t := 30) dX12_dare_115 rfl ?_
    exact x12_dare_2 M hn hn6 hg hK ha hb
  · have hd : dr2 K F T S a b 0 1 = false := by unfold dr2 dst; rw [decide_eq_false A0, Bool.false_and]
    rw [hd]
    refine Ex_iload_n dX12_dare_30 rfl rfl ?_
    refine Ex_iconst dX12_dare_31 rfl ?_
    refine Ex_icmp_ge (t := 118) dX12_dare_32 rfl rfl (by omega) (fun c32 => absurd c32 (by omega)) (fun c32 => ?_)
    refine Ex_iload_n dX12_dare_35 rfl rfl ?_
    refine Ex_iconst dX12_dare_36 rfl ?_
    refine Ex_idiv dX12_dare_37 rfl (by omega) (by omega) ?_
    rw [show (1 : Int) / 2 = 0 from rfl]
    refine Ex_istore (L2 := [_, _, _, _, _, _, _]) dX12_dare_38 rfl rfl rfl ?_
    refine Ex_iload_n dX12_dare_40 rfl rfl ?_
    refine Ex_iconst dX12_dare_41 rfl ?_
    refine Ex_irem dX12_dare_42 rfl (by omega) (by omega) ?_
    rw [show (1 : Int) % 2 = 1 from rfl]
    refine Ex_istore (L2 := [_, _, _, _, _, _, _]) dX12_dare_43 rfl rfl rfl ?_
    refine Ex_aload_n dX12_dare_45 rfl rfl ?_
    refine Ex_iload_n dX12_dare_46 rfl rfl ?_
    refine Ex_iconst dX12_dare_47 rfl ?_
    refine Ex_iload dX12_dare_48 rfl rfl ?_
    refine Ex_isub dX12_dare_50 rfl ?_
    refine Ex_iload dX12_dare_51 rfl rfl ?_
    refine Ex_inv 2 dX12_dare_53 rfl rfl (Or.inl rfl) rfl rfl rfl rfl (ma0 M) rfl rfl rfl (Ex_post (x12_daresOf M hn6 hg hK ha (by omega) (by omega)) ?_)
    rintro _ _ ⟨rfl, e0⟩
    obtain rfl := Eq.symm e0
    refine Ex_aload_n dX12_dare_56 rfl rfl ?_
    refine Ex_iload_n dX12_dare_57 rfl rfl ?_
    refine Ex_iload dX12_dare_58 rfl rfl ?_
    refine Ex_iload dX12_dare_60 rfl rfl ?_
    refine Ex_inv 2 dX12_dare_62 rfl rfl (Or.inl rfl) rfl rfl rfl rfl (ma0 M) rfl rfl rfl (Ex_post (x12_daresOf M hn6 hg hK ha (by omega) (by omega)) ?_)
    rintro _ _ ⟨rfl, e0⟩
    obtain rfl := Eq.symm e0
    refine Ex_icmp_gt (t := 95) dX12_dare_65 rfl rfl (by omega) (fun c65 => ?_) (fun c65 => absurd c65 (by omega))
    refine Ex_iconst dX12_dare_95 rfl ?_
    refine Ex_istore (L2 := [_, _, _, _, _, _, _]) dX12_dare_96 rfl rfl rfl ?_
    refine Ex_iload dX12_dare_98 rfl rfl ?_
    refine Ex_if_eq (t := 112) dX12_dare_100 rfl rfl (by omega) (fun c100 => ?_) (fun c100 => absurd c100 (by omega))
    refine Ex_iinc (L2 := [_, _, _, _, _, _, _]) dX12_dare_112 rfl rfl rfl ?_
    refine Ex_goto (t := 30) dX12_dare_115 rfl ?_
    exact x12_dare_2 M hn hn6 hg hK ha hb
theorem x12_dare_0 {E : am_E} {d : Nat} {h : Hp} {m n : Nat} {g K F T S C : Nat → Int} {ρ : Nat → Nat → Int} {kp : Value} {a b : Nat} {v4 v5 v6 : Value}  (M : MAt h m g K F T S C ρ kp) (hn : g 0 = (n : Int)) (hn6 : n ≤ 6) (hg : Rng n T S C) (hK : ∀ i, i < n → (0 ≤ K i ∧ K i ≤ 7) ∧ (0 ≤ F i ∧ F i ≤ 9)) (ha : a < n) (hb : b < n)  : Ex E (d + 4) mX12_dare 30 [.ref m, .int (i32 (a : Int)), .int (i32 (b : Int)), .int (i32 0), v4, v5, v6] [] h (fun r1 h1 => r1 = some (.int (i32 (if dr2 K F T S a b 0 0 then 0 else (if dr2 K F T S a b 0 1 then 1 else (if dr2 K F T S a b 1 0 then 10 else (if dr2 K F T S a b 1 1 then 11 else -4)))))) ∧ h1 = h) := by
  have hKa := hK a ha
  have hKb := hK b hb
  have r0 := dv_r (k := K a) (t := T a) (s := S a) (own := 1 - 0) (oth := 0) hKa.2 (by omega)
  have r1 := dv_r (k := K a) (t := T a) (s := S a) (own := 0) (oth := 0) hKa.2 (by omega)
  have r2 := dv_r (k := K b) (t := T b) (s := S b) (own := 1 - 0) (oth := 0) hKb.2 (by omega)
  have r3 := dv_r (k := K b) (t := T b) (s := S b) (own := 0) (oth := 0) hKb.2 (by omega)
  by_cases A0 : dv (K a) (F a) (T a) (S a) (1 - 0) 0 ≤ dv (K a) (F a) (T a) (S a) 0 0
  by_cases B0 : dv (K b) (F b) (T b) (S b) (1 - 0) 0 ≤ dv (K b) (F b) (T b) (S b) 0 0
  · have hd : dr2 K F T S a b 0 0 = true := by unfold dr2 dst; rw [decide_eq_true A0, decide_eq_true B0]; rfl
    rw [hd]
    refine Ex_iload_n dX12_dare_30 rfl rfl ?_
    refine Ex_iconst dX12_dare_31 rfl ?_
    refine Ex_icmp_ge (t := 118) dX12_dare_32 rfl rfl (by omega) (fun c32 => absurd c32 (by omega)) (fun c32 => ?_)
    refine Ex_iload_n dX12_dare_35 rfl rfl ?_
    refine Ex_iconst dX12_dare_36 rfl ?_
    refine Ex_idiv dX12_dare_37 rfl (by omega) (by omega) ?_
    rw [show (0 : Int) / 2 = 0 from rfl]
    refine Ex_istore (L2 := [_, _, _, _, _, _, _]) dX12_dare_38 rfl rfl rfl ?_
    refine Ex_iload_n dX12_dare_40 rfl rfl ?_
    refine Ex_iconst dX12_dare_41 rfl ?_
    refine Ex_irem dX12_dare_42 rfl (by omega) (by omega) ?_
    rw [show (0 : Int) % 2 = 0 from rfl]
    refine Ex_istore (L2 := [_, _, _, _, _, _, _]) dX12_dare_43 rfl rfl rfl ?_
    refine Ex_aload_n dX12_dare_45 rfl rfl ?_
    refine Ex_iload_n dX12_dare_46 rfl rfl ?_
    refine Ex_iconst dX12_dare_47 rfl ?_
    refine Ex_iload dX12_dare_48 rfl rfl ?_
    refine Ex_isub dX12_dare_50 rfl ?_
    refine Ex_iload dX12_dare_51 rfl rfl ?_
    refine Ex_inv 2 dX12_dare_53 rfl rfl (Or.inl rfl) rfl rfl rfl rfl (ma0 M) rfl rfl rfl (Ex_post (x12_daresOf M hn6 hg hK ha (by omega) (by omega)) ?_)
    rintro _ _ ⟨rfl, e0⟩
    obtain rfl := Eq.symm e0
    refine Ex_aload_n dX12_dare_56 rfl rfl ?_
    refine Ex_iload_n dX12_dare_57 rfl rfl ?_
    refine Ex_iload dX12_dare_58 rfl rfl ?_
    refine Ex_iload dX12_dare_60 rfl rfl ?_
    refine Ex_inv 2 dX12_dare_62 rfl rfl (Or.inl rfl) rfl rfl rfl rfl (ma0 M) rfl rfl rfl (Ex_post (x12_daresOf M hn6 hg hK ha (by omega) (by omega)) ?_)
    rintro _ _ ⟨rfl, e0⟩
    obtain rfl := Eq.symm e0
    refine Ex_icmp_gt (t := 95) dX12_dare_65 rfl rfl (by omega) (fun c65 => absurd c65 (by omega)) (fun c65 => ?_)
    refine Ex_aload_n dX12_dare_68 rfl rfl ?_
    refine Ex_iload_n dX12_dare_69 rfl rfl ?_
    refine Ex_iconst dX12_dare_70 rfl ?_
    refine Ex_iload dX12_dare_71 rfl rfl ?_
    refine Ex_isub dX12_dare_73 rfl ?_
    refine Ex_iload dX12_dare_74 rfl rfl ?_
    refine Ex_inv 2 dX12_dare_76 rfl rfl (Or.inl rfl) rfl rfl rfl rfl (ma0 M) rfl rfl rfl (Ex_post (x12_daresOf M hn6 hg hK hb (by omega) (by omega)) ?_)
    rintro _ _ ⟨rfl, e0⟩
    obtain rfl := Eq.symm e0
    refine Ex_aload_n dX12_dare_79 rfl rfl ?_
    refine Ex_iload_n dX12_dare_80 rfl rfl ?_
    refine Ex_iload dX12_dare_81 rfl rfl ?_
    refine Ex_iload dX12_dare_83 rfl rfl ?_
    refine Ex_inv 2 dX12_dare_85 rfl rfl (Or.inl rfl) rfl rfl rfl rfl (ma0 M) rfl rfl rfl (Ex_post (x12_daresOf M hn6 hg hK hb (by omega) (by omega)) ?_)
    rintro _ _ ⟨rfl, e0⟩
    obtain rfl := Eq.symm e0
    refine Ex_icmp_gt (t := 95) dX12_dare_88 rfl rfl (by omega) (fun c88 => absurd c88 (by omega)) (fun c88 => ?_)
    refine Ex_iconst dX12_dare_91 rfl ?_
    refine Ex_goto (t := 96) dX12_dare_92 rfl ?_
    refine Ex_istore (L2 := [_, _, _, _, _, _, _]) dX12_dare_96 rfl rfl rfl ?_
    refine Ex_iload dX12_dare_98 rfl rfl ?_
    refine Ex_if_eq (t := 112) dX12_dare_100 rfl rfl (by omega) (fun c100 => absurd c100 (by omega)) (fun c100 => ?_)
    refine Ex_bipush dX12_dare_103 rfl (by decide) ?_
    refine Ex_iload dX12_dare_105 rfl rfl ?_
    refine Ex_imul dX12_dare_107 rfl ?_
    refine Ex_iload dX12_dare_108 rfl rfl ?_
    refine Ex_iadd dX12_dare_110 rfl ?_
    refine Ex_iret dX12_dare_111 rfl rfl ?_
    exact ⟨rfl, rfl⟩
  · have hd : dr2 K F T S a b 0 0 = false := by unfold dr2 dst; rw [decide_eq_false B0, Bool.and_false]
    rw [hd]
    refine Ex_iload_n dX12_dare_30 rfl rfl ?_
    refine Ex_iconst dX12_dare_31 rfl ?_
    refine Ex_icmp_ge (t := 118) dX12_dare_32 rfl rfl (by omega) (fun c32 => absurd c32 (by omega)) (fun c32 => ?_)
    refine Ex_iload_n dX12_dare_35 rfl rfl ?_
    refine Ex_iconst dX12_dare_36 rfl ?_
    refine Ex_idiv dX12_dare_37 rfl (by omega) (by omega) ?_
    rw [show (0 : Int) / 2 = 0 from rfl]
    refine Ex_istore (L2 := [_, _, _, _, _, _, _]) dX12_dare_38 rfl rfl rfl ?_
    refine Ex_iload_n dX12_dare_40 rfl rfl ?_
    refine Ex_iconst dX12_dare_41 rfl ?_
    refine Ex_irem dX12_dare_42 rfl (by omega) (by omega) ?_
    rw [show (0 : Int) % 2 = 0 from rfl]
    refine Ex_istore (L2 := [_, _, _, _, _, _, _]) dX12_dare_43 rfl rfl rfl ?_
    refine Ex_aload_n dX12_dare_45 rfl rfl ?_
    refine Ex_iload_n dX12_dare_46 rfl rfl ?_
    refine Ex_iconst dX12_dare_47 rfl ?_
    refine Ex_iload dX12_dare_48 rfl rfl ?_
    refine Ex_isub dX12_dare_50 rfl ?_
    refine Ex_iload dX12_dare_51 rfl rfl ?_
    refine Ex_inv 2 dX12_dare_53 rfl rfl (Or.inl rfl) rfl rfl rfl rfl (ma0 M) rfl rfl rfl (Ex_post (x12_daresOf M hn6 hg hK ha (by omega) (by omega)) ?_)
    rintro _ _ ⟨rfl, e0⟩
    obtain rfl := Eq.symm e0
    refine Ex_aload_n dX12_dare_56 rfl rfl ?_
    refine Ex_iload_n dX12_dare_57 rfl rfl ?_
    refine Ex_iload dX12_dare_58 rfl rfl ?_
    refine Ex_iload dX12_dare_60 rfl rfl ?_
    refine Ex_inv 2 dX12_dare_62 rfl rfl (Or.inl rfl) rfl rfl rfl rfl (ma0 M) rfl rfl rfl (Ex_post (x12_daresOf M hn6 hg hK ha (by omega) (by omega)) ?_)
    rintro _ _ ⟨rfl, e0⟩
    obtain rfl := Eq.symm e0
    refine Ex_icmp_gt (t := 95) dX12_dare_65 rfl rfl (by omega) (fun c65 => absurd c65 (by omega)) (fun c65 => ?_)
    refine Ex_aload_n dX12_dare_68 rfl rfl ?_
    refine Ex_iload_n dX12_dare_69 rfl rfl ?_
    refine Ex_iconst dX12_dare_70 rfl ?_
    refine Ex_iload dX12_dare_71 rfl rfl ?_
    refine Ex_isub dX12_dare_73 rfl ?_
    refine Ex_iload dX12_dare_74 rfl rfl ?_
    refine Ex_inv 2 dX12_dare_76 rfl rfl (Or.inl rfl) rfl rfl rfl rfl (ma0 M) rfl rfl rfl (Ex_post (x12_daresOf M hn6 hg hK hb (by omega) (by omega)) ?_)
    rintro _ _ ⟨rfl, e0⟩
    obtain rfl := Eq.symm e0
    refine Ex_aload_n dX12_dare_79 rfl rfl ?_
    refine Ex_iload_n dX12_dare_80 rfl rfl ?_
    refine Ex_iload dX12_dare_81 rfl rfl ?_
    refine Ex_iload dX12_dare_83 rfl rfl ?_
    refine Ex_inv 2 dX12_dare_85 rfl rfl (Or.inl rfl) rfl rfl rfl rfl (ma0 M) rfl rfl rfl (Ex_post (x12_daresOf M hn6 hg hK hb (by omega) (by omega)) ?_)
    rintro _ _ ⟨rfl, e0⟩
    obtain rfl := Eq.symm e0
    refine Ex_icmp_gt (t := 95) dX12_dare_88 rfl rfl (by omega) (fun c88 => ?_) (fun c88 => absurd c88 (by omega))
    refine Ex_iconst dX12_dare_95 rfl ?_
    refine Ex_istore (L2 := [_, _, _, _, _, _, _]) dX12_dare_96 rfl rfl rfl ?_
    refine Ex_iload dX12_dare_98 rfl rfl ?_
    refine Ex_if_eq (t := 112) dX12_dare_100 rfl rfl (by omega) (fun c100 => ?_) (fun c100 => absurd c100 (by omega))
    refine Ex_iinc (L2 := [_, _, _, _, _, _, _]) dX12_dare_112 rfl rfl rfl ?_
    refine Ex_goto (t := 30) dX12_dare_115 rfl ?_
    exact x12_dare_1 M hn hn6 hg hK ha hb
  · have hd : dr2 K F T S a b 0 0 = false := by unfold dr2 dst; rw [decide_eq_false A0, Bool.false_and]
    rw [hd]
    refine Ex_iload_n dX12_dare_30 rfl rfl ?_
    refine Ex_iconst dX12_dare_31 rfl ?_
    refine Ex_icmp_ge (t := 118) dX12_dare_32 rfl rfl (by omega) (fun c32 => absurd c32 (by omega)) (fun c32 => ?_)
    refine Ex_iload_n dX12_dare_35 rfl rfl ?_
    refine Ex_iconst dX12_dare_36 rfl ?_
    refine Ex_idiv dX12_dare_37 rfl (by omega) (by omega) ?_
    rw [show (0 : Int) / 2 = 0 from rfl]
    refine Ex_istore (L2 := [_, _, _, _, _, _, _]) dX12_dare_38 rfl rfl rfl ?_
    refine Ex_iload_n dX12_dare_40 rfl rfl ?_
    refine Ex_iconst dX12_dare_41 rfl ?_
    refine Ex_irem dX12_dare_42 rfl (by omega) (by omega) ?_
    rw [show (0 : Int) % 2 = 0 from rfl]
    refine Ex_istore (L2 := [_, _, _, _, _, _, _]) dX12_dare_43 rfl rfl rfl ?_
    refine Ex_aload_n dX12_dare_45 rfl rfl ?_
    refine Ex_iload_n dX12_dare_46 rfl rfl ?_
    refine Ex_iconst dX12_dare_47 rfl ?_
    refine Ex_iload dX12_dare_48 rfl rfl ?_
    refine Ex_isub dX12_dare_50 rfl ?_
    refine Ex_iload dX12_dare_51 rfl rfl ?_
    refine Ex_inv 2 dX12_dare_53 rfl rfl (Or.inl rfl) rfl rfl rfl rfl (ma0 M) rfl rfl rfl (Ex_post (x12_daresOf M hn6 hg hK ha (by omega) (by omega)) ?_)
    rintro _ _ ⟨rfl, e0⟩
    obtain rfl := Eq.symm e0
    refine Ex_aload_n dX12_dare_56 rfl rfl ?_
    refine Ex_iload_n dX12_dare_57 rfl rfl ?_
    refine Ex_iload dX12_dare_58 rfl rfl ?_
    refine Ex_iload dX12_dare_60 rfl rfl ?_
    refine Ex_inv 2 dX12_dare_62 rfl rfl (Or.inl rfl) rfl rfl rfl rfl (ma0 M) rfl rfl rfl (Ex_post (x12_daresOf M hn6 hg hK ha (by omega) (by omega)) ?_)
    rintro _ _ ⟨rfl, e0⟩
    obtain rfl := Eq.symm e0
    refine Ex_icmp_gt (t := 95) dX12_dare_65 rfl rfl (by omega) (fun c65 => ?_) (fun c65 => absurd c65 (by omega))
    refine Ex_iconst dX12_dare_95 rfl ?_
    refine Ex_istore (L2 := [_, _, _, _, _, _, _]) dX12_dare_96 rfl rfl rfl ?_
    refine Ex_iload dX12_dare_98 rfl rfl ?_
    refine Ex_if_eq (t := 112) dX12_dare_100 rfl rfl (by omega) (fun c100 => ?_) (fun c100 => absurd c100 (by omega))
    refine Ex_iinc (L2 := [_, _, _, _, _, _, _]) dX12_dare_112 rfl rfl rfl ?_
    refine Ex_goto (t := 30) dX12_dare_115 rfl ?_
    exact x12_dare_1 M hn hn6 hg hK ha hb
theorem x12_dare {E : am_E} {d : Nat} {h : Hp} {m n : Nat} {mm hi : Int} {K F T S C : Nat → Int} {σ : Nat → Nat → Int} {a b : Int}  (I : MI h m (n, mm, K, F, T, S, C) hi σ) (hn6 : n ≤ 6) (hg : Rng n T S C) (hK : ∀ i, i < n → (0 ≤ K i ∧ K i ≤ 7) ∧ (0 ≤ F i ∧ F i ≤ 9)) (hB : E.2 ≤ m) (ha : (-2147483648 ≤ a ∧ a ≤ 2147483647)) (hb : (-2147483648 ≤ b ∧ b ≤ 2147483647))  : Ex E (d + 4) mX12_dare 0 [.ref m, .int (i32 a), .int (i32 b), .retAddr 0, .retAddr 0, .retAddr 0, .retAddr 0] [] h (fun r1 h1 => r1 = some (.int (i32 (an_dare n K F T S a b))) ∧ MI h1 m (n, mm, K, F, T, S, C) hi σ ∧ Fr h h1 m (m + 23)) := by
  obtain ⟨g, ρ, kp, M, hn, h6, h23, hσ⟩ := I
  have M : MAt h m g K F T S C ρ kp := M
  have hn : g 0 = (n : Int) := hn
  have h6 : g 6 = mm := h6
  by_cases q : (0 ≤ a ∧ a < (n : Int)) ∧ (0 ≤ b ∧ b < (n : Int)) ∧ a ≠ b
  · obtain ⟨a, rfl⟩ := Int.eq_ofNat_of_zero_le q.1.1
    obtain ⟨b, rfl⟩ := Int.eq_ofNat_of_zero_le q.2.1.1
    have ea : an_dare n K F T S (a : Int) (b : Int) = (if dr2 K F T S a b 0 0 then 0 else (if dr2 K F T S a b 0 1 then 1 else (if dr2 K F T S a b 1 0 then 10 else (if dr2 K F T S a b 1 1 then 11 else -4)))) := by unfold an_dare; exact if_pos q
    rw [ea]
    refine Ex_aload_n dX12_dare_0 rfl rfl ?_
    refine Ex_iconst dX12_dare_1 rfl ?_
    refine Ex_put12 (k0 := 13) (v := 0) dX12_dare_2 rfl (ma0 M) rfl rfl rfl rfl rfl (by omega) rfl ?_
    refine mg0 M ?_
    intro h1_ M1_ f1_
    refine Ex_aload_n dX12_dare_5 rfl rfl ?_
    refine Ex_iload_n dX12_dare_6 rfl rfl ?_
    refine Ex_inv 2 dX12_dare_7 rfl rfl (Or.inl rfl) rfl rfl rfl rfl (ma0 M1_) rfl rfl rfl (Ex_post (x12_isChild M1_ hn hn6 (by omega)) ?_)
    rintro _ _ ⟨rfl, e0⟩
    obtain rfl := Eq.symm e0
    refine Ex_if_eq (t := 26) dX12_dare_10 rfl rfl (by omega) (fun c10 => absurd c10 (by omega)) (fun c10 => ?_)
    refine Ex_aload_n dX12_dare_13 rfl rfl ?_
    refine Ex_iload_n dX12_dare_14 rfl rfl ?_
    refine Ex_inv 2 dX12_dare_15 rfl rfl (Or.inl rfl) rfl rfl rfl rfl (ma0 M1_) rfl rfl rfl (Ex_post (x12_isChild M1_ hn hn6 (by omega)) ?_)
    rintro _ _ ⟨rfl, e0⟩
    obtain rfl := Eq.symm e0
    refine Ex_if_eq (t := 26) dX12_dare_18 rfl rfl (by omega) (fun c18 => absurd c18 (by omega)) (fun c18 => ?_)
    refine Ex_iload_n dX12_dare_21 rfl rfl ?_
    refine Ex_iload_n dX12_dare_22 rfl rfl ?_
    refine Ex_icmp_ne (t := 28) dX12_dare_23 rfl rfl (by omega) (fun c23 => ?_) (fun c23 => absurd c23 (by omega))
    refine Ex_iconst dX12_dare_28 rfl ?_
    refine Ex_istore_n (L2 := [_, _, _, _, _, _, _]) dX12_dare_29 rfl rfl rfl ?_
    refine Ex_post (x12_dare_0 M1_ hn hn6 hg hK (by omega) (by omega)) ?_
    rintro _ _ ⟨rfl, e9⟩
    rw [e9]
    exact ⟨rfl, ⟨_, _, _, M1_, hn, h6, h23, hσ⟩, f1_⟩
  · refine Ex_aload_n dX12_dare_0 rfl rfl ?_
    refine Ex_iconst dX12_dare_1 rfl ?_
    refine Ex_put12 (k0 := 13) (v := 0) dX12_dare_2 rfl (ma0 M) rfl rfl rfl rfl rfl (by omega) rfl ?_
    refine mg0 M ?_
    intro h1_ M1_ f1_
    refine Ex_aload_n dX12_dare_5 rfl rfl ?_
    refine Ex_iload_n dX12_dare_6 rfl rfl ?_
    refine Ex_inv 2 dX12_dare_7 rfl rfl (Or.inl rfl) rfl rfl rfl rfl (ma0 M1_) rfl rfl rfl (Ex_post (x12_isChild M1_ hn hn6 (by omega)) ?_)
    rintro _ _ ⟨rfl, e0⟩
    obtain rfl := Eq.symm e0
    refine Ex_if_eq (t := 26) dX12_dare_10 rfl rfl (by omega) (fun c10 => ?_) (fun c10 => ?_)
    · refine Ex_iconst dX12_dare_26 rfl ?_
      refine Ex_iret dX12_dare_27 rfl rfl ?_
      exact ⟨ri (by unfold an_dare; rw [if_neg q]), ⟨_, _, _, M1_, hn, h6, h23, hσ⟩, f1_⟩
    · refine Ex_aload_n dX12_dare_13 rfl rfl ?_
      refine Ex_iload_n dX12_dare_14 rfl rfl ?_
      refine Ex_inv 2 dX12_dare_15 rfl rfl (Or.inl rfl) rfl rfl rfl rfl (ma0 M1_) rfl rfl rfl (Ex_post (x12_isChild M1_ hn hn6 (by omega)) ?_)
      rintro _ _ ⟨rfl, e0⟩
      obtain rfl := Eq.symm e0
      refine Ex_if_eq (t := 26) dX12_dare_18 rfl rfl (by omega) (fun c18 => ?_) (fun c18 => ?_)
      · refine Ex_iconst dX12_dare_26 rfl ?_
        refine Ex_iret dX12_dare_27 rfl rfl ?_
        exact ⟨ri (by unfold an_dare; rw [if_neg q]), ⟨_, _, _, M1_, hn, h6, h23, hσ⟩, f1_⟩
      · refine Ex_iload_n dX12_dare_21 rfl rfl ?_
        refine Ex_iload_n dX12_dare_22 rfl rfl ?_
        refine Ex_icmp_ne (t := 28) dX12_dare_23 rfl rfl (by omega) (fun c23 => ?_) (fun c23 => ?_)
        · exfalso; omega
        · refine Ex_iconst dX12_dare_26 rfl ?_
          refine Ex_iret dX12_dare_27 rfl rfl ?_
          exact ⟨ri (by unfold an_dare; rw [if_neg q]), ⟨_, _, _, M1_, hn, h6, h23, hσ⟩, f1_⟩
theorem x12_coldest_l {E : am_E} {d : Nat} {h : Hp} {m n : Nat} {g K F T S C : Nat → Int} {ρ : Nat → Nat → Int} {kp : Value} {c : Nat} {v : Int}  (M : MAt h m g K F T S C ρ kp) (hn : g 0 = (n : Int)) (hn6 : n ≤ 6) (hg : Rng n T S C) (hK : ∀ i, i < n → (0 ≤ K i ∧ K i ≤ 7) ∧ (0 ≤ F i ∧ F i ≤ 9)) (hc : c < n) (hv : 0 ≤ v ∧ v ≤ 60)  : ∀ (k : Nat) (o : Nat) (a : Int), o + k = n → 0 ≤ a ∧ a ≤ o → Ex E (d + 2) mX12_coldest 32 [.ref m, .int (i32 (c : Int)), .int (i32 v), .int (i32 a), .int (i32 (o : Int))] [] h (fun r1 h1 => r1 = some (.int (i32 (a + sm (cdB K F S C c v) o k))) ∧ h1 = h) := by
  intro k
  induction k with
  | zero =>
    intro o a hk ha
    refine Ex_iload dX12_coldest_32 rfl rfl ?_
    refine Ex_aload_n dX12_coldest_34 rfl rfl ?_
    refine Ex_getf dX12_coldest_35 rfl (ma0 M) rfl rfl rfl ?_
    refine Ex_icmp_ge (t := 96) dX12_coldest_38 rfl rfl (by omega) (fun c38 => ?_) (fun c38 => absurd c38 (by omega))
    refine Ex_iload_n dX12_coldest_96 rfl rfl ?_
    refine Ex_iret dX12_coldest_97 rfl rfl ?_
    exact ⟨ri (by unfold sm; omega), rfl⟩
  | succ k ih =>
    intro o a hk ha
    have hgo := hg o (by omega)
    have hKo := hK o (by omega)
    have hbr := sp_bears_r (k := K o) hKo.2
    have e20 : hl (C o + v) 20 = min 20 (C o + v) := by unfold hl; rw [if_neg (by omega)]; split <;> omega
    by_cases p : o ≠ c ∧ S o < 7 ∧ sp_bears (K o) (F o) < min 20 (C o + v)
    · have es : sm (cdB K F S C c v) o (k + 1) = 1 + sm (cdB K F S C c v) (o + 1) k := by show cdB K F S C c v o + _ = _; rw [show cdB K F S C c v o = 1 from if_pos p]
      rw [es]
      refine Ex_iload dX12_coldest_32 rfl rfl ?_
      refine Ex_aload_n dX12_coldest_34 rfl rfl ?_
      refine Ex_getf dX12_coldest_35 rfl (ma0 M) rfl rfl rfl ?_
      refine Ex_icmp_ge (t := 96) dX12_coldest_38 rfl rfl (by omega) (fun c38 => absurd c38 (by omega)) (fun c38 => ?_)
      refine Ex_iload_n dX12_coldest_41 rfl rfl ?_
      refine Ex_iload dX12_coldest_42 rfl rfl ?_
      refine Ex_iload_n dX12_coldest_44 rfl rfl ?_
      refine Ex_icmp_eq (t := 87) dX12_coldest_45 rfl rfl (by omega) (fun c45 => absurd c45 (by omega)) (fun c45 => ?_)
      refine Ex_aload_n dX12_coldest_48 rfl rfl ?_
      refine Ex_getf dX12_coldest_49 rfl (ma0 M) rfl rfl rfl ?_
      refine Ex_iload dX12_coldest_52 rfl rfl ?_
      refine Ex_iald12 dX12_coldest_54 rfl (ma4 M) rfl (by omega) ?_
      refine Ex_bipush dX12_coldest_55 rfl (by decide) ?_
      refine Ex_icmp_ge (t := 87) dX12_coldest_57 rfl rfl (by omega) (fun c57 => absurd c57 (by omega)) (fun c57 => ?_)
      refine Ex_aload_n dX12_coldest_60 rfl rfl ?_
      refine Ex_getf dX12_coldest_61 rfl (ma0 M) rfl rfl rfl ?_
      refine Ex_iload dX12_coldest_64 rfl rfl ?_
      refine Ex_iald12 dX12_coldest_66 rfl (ma5 M) rfl (by omega) ?_
      refine Ex_iload_n dX12_coldest_67 rfl rfl ?_
      refine Ex_iadd dX12_coldest_68 rfl ?_
      refine Ex_bipush dX12_coldest_69 rfl (by decide) ?_
      refine Ex_stat 0 dX12_coldest_71 rfl rfl (Or.inl rfl) rfl rfl rfl rfl rfl rfl (Ex_post (x12_held (by omega) (by omega)) ?_)
      rintro _ _ ⟨rfl, e0⟩
      obtain rfl := Eq.symm e0
      rw [e20]
      refine Ex_aload_n dX12_coldest_74 rfl rfl ?_
      refine Ex_iload dX12_coldest_75 rfl rfl ?_
      refine Ex_inv 2 dX12_coldest_77 rfl rfl (Or.inl rfl) rfl rfl rfl rfl (ma0 M) rfl rfl rfl (Ex_post (x12_bearsOf M hn6 hK (by omega)) ?_)
      rintro _ _ ⟨rfl, e0⟩
      obtain rfl := Eq.symm e0
      refine Ex_icmp_le (t := 87) dX12_coldest_80 rfl rfl (by omega) (fun c80 => absurd c80 (by omega)) (fun c80 => ?_)
      refine Ex_iconst dX12_coldest_83 rfl ?_
      refine Ex_goto (t := 88) dX12_coldest_84 rfl ?_
      refine Ex_iadd dX12_coldest_88 rfl ?_
      refine Ex_istore_n (L2 := [_, _, _, _, _]) dX12_coldest_89 rfl rfl rfl ?_
      refine Ex_iinc (L2 := [_, _, _, _, _]) dX12_coldest_90 rfl rfl rfl ?_
      refine Ex_goto (t := 32) dX12_coldest_93 rfl ?_
      refine Ex_post (ih (o + 1) _ (by omega) ⟨by omega, by omega⟩) ?_
      rintro _ _ ⟨rfl, rfl⟩
      exact ⟨ri (by omega), rfl⟩
    · have es : sm (cdB K F S C c v) o (k + 1) = 0 + sm (cdB K F S C c v) (o + 1) k := by show cdB K F S C c v o + _ = _; rw [show cdB K F S C c v o = 0 from if_neg p]
      rw [es]
      refine Ex_iload dX12_coldest_32 rfl rfl ?_
      refine Ex_aload_n dX12_coldest_34 rfl rfl ?_
      refine Ex_getf dX12_coldest_35 rfl (ma0 M) rfl rfl rfl ?_
      refine Ex_icmp_ge (t := 96) dX12_coldest_38 rfl rfl (by omega) (fun c38 => absurd c38 (by omega)) (fun c38 => ?_)
      refine Ex_iload_n dX12_coldest_41 rfl rfl ?_
      refine Ex_iload dX12_coldest_42 rfl rfl ?_
      refine Ex_iload_n dX12_coldest_44 rfl rfl ?_
      refine Ex_icmp_eq (t := 87) dX12_coldest_45 rfl rfl (by omega) (fun c45 => ?_) (fun c45 => ?_)
      · refine Ex_iconst dX12_coldest_87 rfl ?_
        refine Ex_iadd dX12_coldest_88 rfl ?_
        refine Ex_istore_n (L2 := [_, _, _, _, _]) dX12_coldest_89 rfl rfl rfl ?_
        refine Ex_iinc (L2 := [_, _, _, _, _]) dX12_coldest_90 rfl rfl rfl ?_
        refine Ex_goto (t := 32) dX12_coldest_93 rfl ?_
        refine Ex_post (ih (o + 1) _ (by omega) ⟨by omega, by omega⟩) ?_
        rintro _ _ ⟨rfl, rfl⟩
        exact ⟨ri (by omega), rfl⟩
      · refine Ex_aload_n dX12_coldest_48 rfl rfl ?_
        refine Ex_getf dX12_coldest_49 rfl (ma0 M) rfl rfl rfl ?_
        refine Ex_iload dX12_coldest_52 rfl rfl ?_
        refine Ex_iald12 dX12_coldest_54 rfl (ma4 M) rfl (by omega) ?_
        refine Ex_bipush dX12_coldest_55 rfl (by decide) ?_
        refine Ex_icmp_ge (t := 87) dX12_coldest_57 rfl rfl (by omega) (fun c57 => ?_) (fun c57 => ?_)
        · refine Ex_iconst dX12_coldest_87 rfl ?_
          refine Ex_iadd dX12_coldest_88 rfl ?_
          refine Ex_istore_n (L2 := [_, _, _, _, _]) dX12_coldest_89 rfl rfl rfl ?_
          refine Ex_iinc (L2 := [_, _, _, _, _]) dX12_coldest_90 rfl rfl rfl ?_
          refine Ex_goto (t := 32) dX12_coldest_93 rfl ?_
          refine Ex_post (ih (o + 1) _ (by omega) ⟨by omega, by omega⟩) ?_
          rintro _ _ ⟨rfl, rfl⟩
          exact ⟨ri (by omega), rfl⟩
        · refine Ex_aload_n dX12_coldest_60 rfl rfl ?_
          refine Ex_getf dX12_coldest_61 rfl (ma0 M) rfl rfl rfl ?_
          refine Ex_iload dX12_coldest_64 rfl rfl ?_
          refine Ex_iald12 dX12_coldest_66 rfl (ma5 M) rfl (by omega) ?_
          refine Ex_iload_n dX12_coldest_67 rfl rfl ?_
          refine Ex_iadd dX12_coldest_68 rfl ?_
          refine Ex_bipush dX12_coldest_69 rfl (by decide) ?_
          refine Ex_stat 0 dX12_coldest_71 rfl rfl (Or.inl rfl) rfl rfl rfl rfl rfl rfl (Ex_post (x12_held (by omega) (by omega)) ?_)
          rintro _ _ ⟨rfl, e0⟩
          obtain rfl := Eq.symm e0
          rw [e20]
          refine Ex_aload_n dX12_coldest_74 rfl rfl ?_
          refine Ex_iload dX12_coldest_75 rfl rfl ?_
          refine Ex_inv 2 dX12_coldest_77 rfl rfl (Or.inl rfl) rfl rfl rfl rfl (ma0 M) rfl rfl rfl (Ex_post (x12_bearsOf M hn6 hK (by omega)) ?_)
          rintro _ _ ⟨rfl, e0⟩
          obtain rfl := Eq.symm e0
          refine Ex_icmp_le (t := 87) dX12_coldest_80 rfl rfl (by omega) (fun c80 => ?_) (fun c80 => ?_)
          · refine Ex_iconst dX12_coldest_87 rfl ?_
            refine Ex_iadd dX12_coldest_88 rfl ?_
            refine Ex_istore_n (L2 := [_, _, _, _, _]) dX12_coldest_89 rfl rfl rfl ?_
            refine Ex_iinc (L2 := [_, _, _, _, _]) dX12_coldest_90 rfl rfl rfl ?_
            refine Ex_goto (t := 32) dX12_coldest_93 rfl ?_
            refine Ex_post (ih (o + 1) _ (by omega) ⟨by omega, by omega⟩) ?_
            rintro _ _ ⟨rfl, rfl⟩
            exact ⟨ri (by omega), rfl⟩
          · exfalso
            exact p ⟨by omega, by omega, by omega⟩
theorem x12_coldest {E : am_E} {d : Nat} {h : Hp} {m n : Nat} {mm hi : Int} {K F T S C : Nat → Int} {σ : Nat → Nat → Int} {c v : Int}  (I : MI h m (n, mm, K, F, T, S, C) hi σ) (hn6 : n ≤ 6) (hg : Rng n T S C) (hK : ∀ i, i < n → (0 ≤ K i ∧ K i ≤ 7) ∧ (0 ≤ F i ∧ F i ≤ 9)) (hB : E.2 ≤ m) (hc : (-2147483648 ≤ c ∧ c ≤ 2147483647)) (hv : (-2147483648 ≤ v ∧ v ≤ 2147483647))  : Ex E (d + 2) mX12_coldest 0 [.ref m, .int (i32 c), .int (i32 v), .retAddr 0, .retAddr 0] [] h (fun r1 h1 => r1 = some (.int (i32 (an_coldest n K F S C c v))) ∧ MI h1 m (n, mm, K, F, T, S, C) hi σ ∧ Fr h h1 m (m + 23)) := by
  obtain ⟨g, ρ, kp, M, hn, h6, h23, hσ⟩ := I
  have M : MAt h m g K F T S C ρ kp := M
  have hn : g 0 = (n : Int) := hn
  have h6 : g 6 = mm := h6
  by_cases q : (0 ≤ c ∧ c < (n : Int)) ∧ (0 ≤ v ∧ v ≤ 60)
  · obtain ⟨c, rfl⟩ := Int.eq_ofNat_of_zero_le (show 0 ≤ c by omega)
    have hc : c < n := by omega
    have hgc := hg c hc
    have hKc := hK c hc
    have ea : an_coldest n K F S C (c : Int) v = sm (cdB K F S C c v) 0 n := by unfold an_coldest; exact if_pos q
    rw [ea]
    refine Ex_aload_n dX12_coldest_0 rfl rfl ?_
    refine Ex_iconst dX12_coldest_1 rfl ?_
    refine Ex_put12 (k0 := 13) (v := 0) dX12_coldest_2 rfl (ma0 M) rfl rfl rfl rfl rfl (by omega) rfl ?_
    refine mg0 M ?_
    intro h1_ M1_ f1_
    refine Ex_aload_n dX12_coldest_5 rfl rfl ?_
    refine Ex_iload_n dX12_coldest_6 rfl rfl ?_
    refine Ex_inv 2 dX12_coldest_7 rfl rfl (Or.inl rfl) rfl rfl rfl rfl (ma0 M1_) rfl rfl rfl (Ex_post (x12_isChild M1_ hn hn6 (by omega)) ?_)
    rintro _ _ ⟨rfl, e0⟩
    obtain rfl := Eq.symm e0
    refine Ex_if_eq (t := 25) dX12_coldest_10 rfl rfl (by omega) (fun c10 => absurd c10 (by omega)) (fun c10 => ?_)
    refine Ex_iload_n dX12_coldest_13 rfl rfl ?_
    refine Ex_i2l dX12_coldest_14 rfl (by omega) ?_
    refine Ex_lconst (z := 0) dX12_coldest_15 rfl (by decide) ?_
    refine Ex_ldc2 (z := 60) dX12_coldest_16 rfl rfl ?_
    refine Ex_stat 0 dX12_coldest_19 rfl rfl (Or.inl rfl) rfl rfl rfl rfl rfl rfl (Ex_post (x12_in (by omega) (by omega) (by omega)) ?_)
    rintro _ _ ⟨rfl, e0⟩
    obtain rfl := Eq.symm e0
    refine Ex_if_ne (t := 27) dX12_coldest_22 rfl rfl (by omega) (fun c22 => ?_) (fun c22 => absurd c22 (by omega))
    refine Ex_iconst dX12_coldest_27 rfl ?_
    refine Ex_istore_n (L2 := [_, _, _, _, _]) dX12_coldest_28 rfl rfl rfl ?_
    refine Ex_iconst dX12_coldest_29 rfl ?_
    refine Ex_istore (L2 := [_, _, _, _, _]) dX12_coldest_30 rfl rfl rfl ?_
    refine Ex_post (x12_coldest_l M1_ hn hn6 hg hK hc q.2 n 0 0 (by omega) (by omega)) ?_
    rintro _ _ ⟨rfl, e9⟩
    rw [e9]
    exact ⟨ri (by omega), ⟨_, _, _, M1_, hn, h6, h23, hσ⟩, f1_⟩
  · refine Ex_aload_n dX12_coldest_0 rfl rfl ?_
    refine Ex_iconst dX12_coldest_1 rfl ?_
    refine Ex_put12 (k0 := 13) (v := 0) dX12_coldest_2 rfl (ma0 M) rfl rfl rfl rfl rfl (by omega) rfl ?_
    refine mg0 M ?_
    intro h1_ M1_ f1_
    refine Ex_aload_n dX12_coldest_5 rfl rfl ?_
    refine Ex_iload_n dX12_coldest_6 rfl rfl ?_
    refine Ex_inv 2 dX12_coldest_7 rfl rfl (Or.inl rfl) rfl rfl rfl rfl (ma0 M1_) rfl rfl rfl (Ex_post (x12_isChild M1_ hn hn6 (by omega)) ?_)
    rintro _ _ ⟨rfl, e0⟩
    obtain rfl := Eq.symm e0
    refine Ex_if_eq (t := 25) dX12_coldest_10 rfl rfl (by omega) (fun c10 => ?_) (fun c10 => ?_)
    · refine Ex_iconst dX12_coldest_25 rfl ?_
      refine Ex_iret dX12_coldest_26 rfl rfl ?_
      exact ⟨ri (by unfold an_coldest; rw [if_neg q]), ⟨_, _, _, M1_, hn, h6, h23, hσ⟩, f1_⟩
    · refine Ex_iload_n dX12_coldest_13 rfl rfl ?_
      refine Ex_i2l dX12_coldest_14 rfl (by omega) ?_
      refine Ex_lconst (z := 0) dX12_coldest_15 rfl (by decide) ?_
      refine Ex_ldc2 (z := 60) dX12_coldest_16 rfl rfl ?_
      refine Ex_stat 0 dX12_coldest_19 rfl rfl (Or.inl rfl) rfl rfl rfl rfl rfl rfl (Ex_post (x12_in (by omega) (by omega) (by omega)) ?_)
      rintro _ _ ⟨rfl, e0⟩
      obtain rfl := Eq.symm e0
      refine Ex_if_ne (t := 27) dX12_coldest_22 rfl rfl (by omega) (fun c22 => ?_) (fun c22 => ?_)
      · exfalso; omega
      · refine Ex_iconst dX12_coldest_25 rfl ?_
        refine Ex_iret dX12_coldest_26 rfl rfl ?_
        exact ⟨ri (by unfold an_coldest; rw [if_neg q]), ⟨_, _, _, M1_, hn, h6, h23, hσ⟩, f1_⟩
theorem x12_last_l {E : am_E} {d : Nat} {h : Hp} {m n : Nat} {g K F T S C : Nat → Int} {ρ : Nat → Nat → Int} {kp : Value}  (M : MAt h m g K F T S C ρ kp) (hn : g 0 = (n : Int)) (hn6 : n ≤ 6) (hg : Rng n T S C)  : ∀ (k : Nat) (c : Nat) (l : Int) (v3 : Value), c + k = n → l = -4 ∨ (0 ≤ l ∧ l < n) → Ex E d mX12_last 10 [.ref m, .int (i32 l), .int (i32 (c : Int)), v3] [] h (fun r1 h1 => r1 = some (.int (i32 (an_last T S c l k))) ∧ h1 = h) := by
  intro k
  induction k with
  | zero =>
    intro c l v3 hk hl
    refine Ex_iload_n dX12_last_10 rfl rfl ?_
    refine Ex_aload_n dX12_last_11 rfl rfl ?_
    refine Ex_getf dX12_last_12 rfl (ma0 M) rfl rfl rfl ?_
    refine Ex_icmp_ge (t := 89) dX12_last_15 rfl rfl (by omega) (fun c15 => ?_) (fun c15 => absurd c15 (by omega))
    refine Ex_iload_n dX12_last_89 rfl rfl ?_
    refine Ex_iret dX12_last_90 rfl rfl ?_
    exact ⟨rfl, rfl⟩
  | succ k ih =>
    intro c l v3 hk hl
    have hgc := hg c (by omega)
    have ea : an_last T S c l (k + 1) = if l = -4 ∨ S c < S l.toNat ∨ (S c = S l.toNat ∧ T c < T l.toNat) then an_last T S (c + 1) (c : Int) k else an_last T S (c + 1) l k := rfl
    rw [ea]
    by_cases p1 : l = -4
    rotate_left
    have hgl := hg l.toNat (by omega)
    by_cases p2 : S c < S l.toNat
    rotate_left
    by_cases p3 : S c = S l.toNat ∧ T c < T l.toNat
    rotate_left
    · rw [if_neg (by omega)]
      refine Ex_iload_n dX12_last_10 rfl rfl ?_
      refine Ex_aload_n dX12_last_11 rfl rfl ?_
      refine Ex_getf dX12_last_12 rfl (ma0 M) rfl rfl rfl ?_
      refine Ex_icmp_ge (t := 89) dX12_last_15 rfl rfl (by omega) (fun c15 => absurd c15 (by omega)) (fun c15 => ?_)
      refine Ex_iload_n dX12_last_18 rfl rfl ?_
      refine Ex_if_lt (t := 37) dX12_last_19 rfl rfl (by omega) (fun c19 => absurd c19 (by omega)) (fun c19 => ?_)
      refine Ex_aload_n dX12_last_22 rfl rfl ?_
      refine Ex_getf dX12_last_23 rfl (ma0 M) rfl rfl rfl ?_
      refine Ex_iload_n dX12_last_26 rfl rfl ?_
      refine Ex_iald12 dX12_last_27 rfl (ma4 M) rfl (by omega) ?_
      refine Ex_aload_n dX12_last_28 rfl rfl ?_
      refine Ex_getf dX12_last_29 rfl (ma0 M) rfl rfl rfl ?_
      refine Ex_iload_n dX12_last_32 rfl rfl ?_
      refine Ex_iald12 (c := l.toNat) dX12_last_33 rfl (ma4 M) (by omega) (by omega) ?_
      refine Ex_icmp_ge (t := 41) dX12_last_34 rfl rfl (by omega) (fun c34 => ?_) (fun c34 => absurd c34 (by omega))
      refine Ex_iconst dX12_last_41 rfl ?_
      refine Ex_istore_n (L2 := [_, _, _, _]) dX12_last_42 rfl rfl rfl ?_
      refine Ex_iload_n dX12_last_43 rfl rfl ?_
      refine Ex_if_ne (t := 77) dX12_last_44 rfl rfl (by omega) (fun c44 => absurd c44 (by omega)) (fun c44 => ?_)
      refine Ex_aload_n dX12_last_47 rfl rfl ?_
      refine Ex_getf dX12_last_48 rfl (ma0 M) rfl rfl rfl ?_
      refine Ex_iload_n dX12_last_51 rfl rfl ?_
      refine Ex_iald12 dX12_last_52 rfl (ma4 M) rfl (by omega) ?_
      refine Ex_aload_n dX12_last_53 rfl rfl ?_
      refine Ex_getf dX12_last_54 rfl (ma0 M) rfl rfl rfl ?_
      refine Ex_iload_n dX12_last_57 rfl rfl ?_
      refine Ex_iald12 (c := l.toNat) dX12_last_58 rfl (ma4 M) (by omega) (by omega) ?_
      refine Ex_icmp_ne (t := 81) dX12_last_59 rfl rfl (by omega) (fun c59 => ?_) (fun c59 => ?_)
      · refine Ex_iload_n dX12_last_81 rfl rfl ?_
        refine Ex_istore_n (L2 := [_, _, _, _]) dX12_last_82 rfl rfl rfl ?_
        refine Ex_iinc (L2 := [_, _, _, _]) dX12_last_83 rfl rfl rfl ?_
        refine Ex_goto (t := 10) dX12_last_86 rfl ?_
        exact ih (c + 1) _ _ (by omega) (by omega)
      · refine Ex_aload_n dX12_last_62 rfl rfl ?_
        refine Ex_getf dX12_last_63 rfl (ma0 M) rfl rfl rfl ?_
        refine Ex_iload_n dX12_last_66 rfl rfl ?_
        refine Ex_iald12 dX12_last_67 rfl (ma3 M) rfl (by omega) ?_
        refine Ex_aload_n dX12_last_68 rfl rfl ?_
        refine Ex_getf dX12_last_69 rfl (ma0 M) rfl rfl rfl ?_
        refine Ex_iload_n dX12_last_72 rfl rfl ?_
        refine Ex_iald12 (c := l.toNat) dX12_last_73 rfl (ma3 M) (by omega) (by omega) ?_
        refine Ex_icmp_ge (t := 81) dX12_last_74 rfl rfl (by omega) (fun c74 => ?_) (fun c74 => ?_)
        · refine Ex_iload_n dX12_last_81 rfl rfl ?_
          refine Ex_istore_n (L2 := [_, _, _, _]) dX12_last_82 rfl rfl rfl ?_
          refine Ex_iinc (L2 := [_, _, _, _]) dX12_last_83 rfl rfl rfl ?_
          refine Ex_goto (t := 10) dX12_last_86 rfl ?_
          exact ih (c + 1) _ _ (by omega) (by omega)
        · exfalso; omega
    · rw [if_pos (by omega)]
      refine Ex_iload_n dX12_last_10 rfl rfl ?_
      refine Ex_aload_n dX12_last_11 rfl rfl ?_
      refine Ex_getf dX12_last_12 rfl (ma0 M) rfl rfl rfl ?_
      refine Ex_icmp_ge (t := 89) dX12_last_15 rfl rfl (by omega) (fun c15 => absurd c15 (by omega)) (fun c15 => ?_)
      refine Ex_iload_n dX12_last_18 rfl rfl ?_
      refine Ex_if_lt (t := 37) dX12_last_19 rfl rfl (by omega) (fun c19 => ?_) (fun c19 => absurd c19 (by omega))
      refine Ex_iconst dX12_last_37 rfl ?_
      refine Ex_goto (t := 42) dX12_last_38 rfl ?_
      refine Ex_istore_n (L2 := [_, _, _, _]) dX12_last_42 rfl rfl rfl ?_
      refine Ex_iload_n dX12_last_43 rfl rfl ?_
      refine Ex_if_ne (t := 77) dX12_last_44 rfl rfl (by omega) (fun c44 => ?_) (fun c44 => absurd c44 (by omega))
      refine Ex_iload_n dX12_last_77 rfl rfl ?_
      refine Ex_goto (t := 82) dX12_last_78 rfl ?_
      refine Ex_istore_n (L2 := [_, _, _, _]) dX12_last_82 rfl rfl rfl ?_
      refine Ex_iinc (L2 := [_, _, _, _]) dX12_last_83 rfl rfl rfl ?_
      refine Ex_goto (t := 10) dX12_last_86 rfl ?_
      exact ih (c + 1) _ _ (by omega) (by omega)
    · rw [if_pos (by omega)]
      refine Ex_iload_n dX12_last_10 rfl rfl ?_
      refine Ex_aload_n dX12_last_11 rfl rfl ?_
      refine Ex_getf dX12_last_12 rfl (ma0 M) rfl rfl rfl ?_
      refine Ex_icmp_ge (t := 89) dX12_last_15 rfl rfl (by omega) (fun c15 => absurd c15 (by omega)) (fun c15 => ?_)
      refine Ex_iload_n dX12_last_18 rfl rfl ?_
      refine Ex_if_lt (t := 37) dX12_last_19 rfl rfl (by omega) (fun c19 => absurd c19 (by omega)) (fun c19 => ?_)
      refine Ex_aload_n dX12_last_22 rfl rfl ?_
      refine Ex_getf dX12_last_23 rfl (ma0 M) rfl rfl rfl ?_
      refine Ex_iload_n dX12_last_26 rfl rfl ?_
      refine Ex_iald12 dX12_last_27 rfl (ma4 M) rfl (by omega) ?_
      refine Ex_aload_n dX12_last_28 rfl rfl ?_
      refine Ex_getf dX12_last_29 rfl (ma0 M) rfl rfl rfl ?_
      refine Ex_iload_n dX12_last_32 rfl rfl ?_
      refine Ex_iald12 (c := l.toNat) dX12_last_33 rfl (ma4 M) (by omega) (by omega) ?_
      refine Ex_icmp_ge (t := 41) dX12_last_34 rfl rfl (by omega) (fun c34 => absurd c34 (by omega)) (fun c34 => ?_)
      refine Ex_iconst dX12_last_37 rfl ?_
      refine Ex_goto (t := 42) dX12_last_38 rfl ?_
      refine Ex_istore_n (L2 := [_, _, _, _]) dX12_last_42 rfl rfl rfl ?_
      refine Ex_iload_n dX12_last_43 rfl rfl ?_
      refine Ex_if_ne (t := 77) dX12_last_44 rfl rfl (by omega) (fun c44 => ?_) (fun c44 => absurd c44 (by omega))
      refine Ex_iload_n dX12_last_77 rfl rfl ?_
      refine Ex_goto (t := 82) dX12_last_78 rfl ?_
      refine Ex_istore_n (L2 := [_, _, _, _]) dX12_last_82 rfl rfl rfl ?_
      refine Ex_iinc (L2 := [_, _, _, _]) dX12_last_83 rfl rfl rfl ?_
      refine Ex_goto (t := 10) dX12_last_86 rfl ?_
      exact ih (c + 1) _ _ (by omega) (by omega)
    · rw [if_pos (by omega)]
      refine Ex_iload_n dX12_last_10 rfl rfl ?_
      refine Ex_aload_n dX12_last_11 rfl rfl ?_
      refine Ex_getf dX12_last_12 rfl (ma0 M) rfl rfl rfl ?_
      refine Ex_icmp_ge (t := 89) dX12_last_15 rfl rfl (by omega) (fun c15 => absurd c15 (by omega)) (fun c15 => ?_)
      refine Ex_iload_n dX12_last_18 rfl rfl ?_
      refine Ex_if_lt (t := 37) dX12_last_19 rfl rfl (by omega) (fun c19 => absurd c19 (by omega)) (fun c19 => ?_)
      refine Ex_aload_n dX12_last_22 rfl rfl ?_
      refine Ex_getf dX12_last_23 rfl (ma0 M) rfl rfl rfl ?_
      refine Ex_iload_n dX12_last_26 rfl rfl ?_
      refine Ex_iald12 dX12_last_27 rfl (ma4 M) rfl (by omega) ?_
      refine Ex_aload_n dX12_last_28 rfl rfl ?_
      refine Ex_getf dX12_last_29 rfl (ma0 M) rfl rfl rfl ?_
      refine Ex_iload_n dX12_last_32 rfl rfl ?_
      refine Ex_iald12 (c := l.toNat) dX12_last_33 rfl (ma4 M) (by omega) (by omega) ?_
      refine Ex_icmp_ge (t := 41) dX12_last_34 rfl rfl (by omega) (fun c34 => ?_) (fun c34 => absurd c34 (by omega))
      refine Ex_iconst dX12_last_41 rfl ?_
      refine Ex_istore_n (L2 := [_, _, _, _]) dX12_last_42 rfl rfl rfl ?_
      refine Ex_iload_n dX12_last_43 rfl rfl ?_
      refine Ex_if_ne (t := 77) dX12_last_44 rfl rfl (by omega) (fun c44 => absurd c44 (by omega)) (fun c44 => ?_)
      refine Ex_aload_n dX12_last_47 rfl rfl ?_
      refine Ex_getf dX12_last_48 rfl (ma0 M) rfl rfl rfl ?_
      refine Ex_iload_n dX12_last_51 rfl rfl ?_
      refine Ex_iald12 dX12_last_52 rfl (ma4 M) rfl (by omega) ?_
      refine Ex_aload_n dX12_last_53 rfl rfl ?_
      refine Ex_getf dX12_last_54 rfl (ma0 M) rfl rfl rfl ?_
      refine Ex_iload_n dX12_last_57 rfl rfl ?_
      refine Ex_iald12 (c := l.toNat) dX12_last_58 rfl (ma4 M) (by omega) (by omega) ?_
      refine Ex_icmp_ne (t := 81) dX12_last_59 rfl rfl (by omega) (fun c59 => absurd c59 (by omega)) (fun c59 => ?_)
      refine Ex_aload_n dX12_last_62 rfl rfl ?_
      refine Ex_getf dX12_last_63 rfl (ma0 M) rfl rfl rfl ?_
      refine Ex_iload_n dX12_last_66 rfl rfl ?_
      refine Ex_iald12 dX12_last_67 rfl (ma3 M) rfl (by omega) ?_
      refine Ex_aload_n dX12_last_68 rfl rfl ?_
      refine Ex_getf dX12_last_69 rfl (ma0 M) rfl rfl rfl ?_
      refine Ex_iload_n dX12_last_72 rfl rfl ?_
      refine Ex_iald12 (c := l.toNat) dX12_last_73 rfl (ma3 M) (by omega) (by omega) ?_
      refine Ex_icmp_ge (t := 81) dX12_last_74 rfl rfl (by omega) (fun c74 => absurd c74 (by omega)) (fun c74 => ?_)
      refine Ex_iload_n dX12_last_77 rfl rfl ?_
      refine Ex_goto (t := 82) dX12_last_78 rfl ?_
      refine Ex_istore_n (L2 := [_, _, _, _]) dX12_last_82 rfl rfl rfl ?_
      refine Ex_iinc (L2 := [_, _, _, _]) dX12_last_83 rfl rfl rfl ?_
      refine Ex_goto (t := 10) dX12_last_86 rfl ?_
      exact ih (c + 1) _ _ (by omega) (by omega)
theorem x12_last {E : am_E} {d : Nat} {h : Hp} {m n : Nat} {mm hi : Int} {K F T S C : Nat → Int} {σ : Nat → Nat → Int}  (I : MI h m (n, mm, K, F, T, S, C) hi σ) (hn6 : n ≤ 6) (hg : Rng n T S C) (hK : ∀ i, i < n → (0 ≤ K i ∧ K i ≤ 7) ∧ (0 ≤ F i ∧ F i ≤ 9)) (hB : E.2 ≤ m)  : Ex E d mX12_last 0 [.ref m, .retAddr 0, .retAddr 0, .retAddr 0] [] h (fun r1 h1 => r1 = some (.int (i32 (an_last T S 0 (-4) n))) ∧ MI h1 m (n, mm, K, F, T, S, C) hi σ ∧ Fr h h1 m (m + 23)) := by
  obtain ⟨g, ρ, kp, M, hn, h6, h23, hσ⟩ := I
  have M : MAt h m g K F T S C ρ kp := M
  have hn : g 0 = (n : Int) := hn
  have h6 : g 6 = mm := h6
  refine Ex_aload_n dX12_last_0 rfl rfl ?_
  refine Ex_iconst dX12_last_1 rfl ?_
  refine Ex_put12 (k0 := 13) (v := 0) dX12_last_2 rfl (ma0 M) rfl rfl rfl rfl rfl (by omega) rfl ?_
  refine mg0 M ?_
  intro h1_ M1_ f1_
  refine Ex_bipush dX12_last_5 rfl (by decide) ?_
  refine Ex_istore_n (L2 := [_, _, _, _]) dX12_last_7 rfl rfl rfl ?_
  refine Ex_iconst dX12_last_8 rfl ?_
  refine Ex_istore_n (L2 := [_, _, _, _]) dX12_last_9 rfl rfl rfl ?_
  refine Ex_post (x12_last_l M1_ hn hn6 hg n 0 (-4) _ (by omega) (by omega)) ?_
  rintro _ _ ⟨rfl, e9⟩
  rw [e9]
  exact ⟨rfl, ⟨_, _, _, M1_, hn, h6, h23, hσ⟩, f1_⟩
theorem x12_divisor_l {E : am_E} {d : Nat} {h : Hp} {u v : Nat} {g : Nat} : ∀ (k a b : Nat) (v8 v9 : Value), b ≤ k → 0 < a ∨ 0 < b → a ≤ 68719476736 ∧ b ≤ 68719476736 → Nat.gcd a b = g → Ex E d mX12_divisor 6 [.long (i64 (u : Int)), .retAddr 0, .long (i64 (v : Int)), .retAddr 0, .long (i64 (a : Int)), .retAddr 0, .long (i64 (b : Int)), .retAddr 0, v8, v9] [] h (fun r1 h1 => r1 = some (.long (i64 (g : Int))) ∧ h1 = h) := by
  intro k
  induction k with
  | zero =>
    intro a b v8 v9 hk hab hr hg
    obtain rfl : b = 0 := by omega
    obtain rfl : a = g := by rw [← hg, Nat.gcd_zero_right]
    refine Ex_lload dX12_divisor_6 rfl rfl ?_
    refine Ex_lconst (z := 0) dX12_divisor_8 rfl (by decide) ?_
    refine Ex_lcmp dX12_divisor_9 rfl (by omega) ?_
    refine Ex_if_eq (t := 31) dX12_divisor_10 rfl rfl (by rw [lcmp0]; split <;> omega) (fun c10 => ?_) (fun c10 => absurd c10 (by rw [lcmp0] at c10; first | (rw [if_pos (by omega)] at c10; omega) | (rw [if_neg (by omega)] at c10; omega)))
    refine Ex_lload dX12_divisor_31 rfl rfl ?_
    refine Ex_lret dX12_divisor_33 rfl ?_
    exact ⟨rfl, rfl⟩
  | succ k ih =>
    intro a b v8 v9 hk hab hr hg
    by_cases hb : b = 0
    · subst hb
      obtain rfl : a = g := by rw [← hg, Nat.gcd_zero_right]
      refine Ex_lload dX12_divisor_6 rfl rfl ?_
      refine Ex_lconst (z := 0) dX12_divisor_8 rfl (by decide) ?_
      refine Ex_lcmp dX12_divisor_9 rfl (by omega) ?_
      refine Ex_if_eq (t := 31) dX12_divisor_10 rfl rfl (by rw [lcmp0]; split <;> omega) (fun c10 => ?_) (fun c10 => absurd c10 (by rw [lcmp0] at c10; first | (rw [if_pos (by omega)] at c10; omega) | (rw [if_neg (by omega)] at c10; omega)))
      refine Ex_lload dX12_divisor_31 rfl rfl ?_
      refine Ex_lret dX12_divisor_33 rfl ?_
      exact ⟨rfl, rfl⟩
    · have hlt : a % b < b := Nat.mod_lt _ (by omega)
      refine Ex_lload dX12_divisor_6 rfl rfl ?_
      refine Ex_lconst (z := 0) dX12_divisor_8 rfl (by decide) ?_
      refine Ex_lcmp dX12_divisor_9 rfl (by omega) ?_
      refine Ex_if_eq (t := 31) dX12_divisor_10 rfl rfl (by rw [lcmp0]; split <;> omega) (fun c10 => absurd c10 (by rw [lcmp0] at c10; first | (rw [if_pos (by omega)] at c10; omega) | (rw [if_neg (by omega)] at c10; omega))) (fun c10 => ?_)
      refine Ex_lload dX12_divisor_13 rfl rfl ?_
      refine Ex_lload dX12_divisor_15 rfl rfl ?_
      refine Ex_lrem dX12_divisor_17 rfl (by omega) (by omega) ?_
      refine Ex_lstore (L2 := [_, _, _, _, _, _, _, _, _, _]) dX12_divisor_18 rfl rfl rfl ?_
      refine Ex_lload dX12_divisor_20 rfl rfl ?_
      refine Ex_lstore (L2 := [_, _, _, _, _, _, _, _, _, _]) dX12_divisor_22 rfl rfl rfl ?_
      refine Ex_lload dX12_divisor_24 rfl rfl ?_
      refine Ex_lstore (L2 := [_, _, _, _, _, _, _, _, _, _]) dX12_divisor_26 rfl rfl rfl ?_
      refine Ex_goto (t := 6) dX12_divisor_28 rfl ?_
      exact ih b (a % b) _ _ (by omega) (by omega) (by omega) (by rw [gcd_st]; exact hg)
theorem x12_divisor {E : am_E} {d : Nat} {h : Hp} {u v : Nat}  (hu : 0 < u ∨ 0 < v) (hr : u ≤ 68719476736 ∧ v ≤ 68719476736)  : Ex E d mX12_divisor 0 [.long (i64 (u : Int)), .retAddr 0, .long (i64 (v : Int)), .retAddr 0, .retAddr 0, .retAddr 0, .retAddr 0, .retAddr 0, .retAddr 0, .retAddr 0] [] h (fun r1 h1 => r1 = some (.long (i64 (Nat.gcd u v : Int))) ∧ h1 = h) := by
  refine Ex_lload_n dX12_divisor_0 rfl rfl ?_
  refine Ex_lstore (L2 := [_, _, _, _, _, _, _, _, _, _]) dX12_divisor_1 rfl rfl rfl ?_
  refine Ex_lload_n dX12_divisor_3 rfl rfl ?_
  refine Ex_lstore (L2 := [_, _, _, _, _, _, _, _, _, _]) dX12_divisor_4 rfl rfl rfl ?_
  exact x12_divisor_l v u v _ _ (Nat.le_refl _) hu hr rfl
theorem x12_partOf {E : am_E} {d : Nat} {h : Hp} {u v : Nat} {p : Int}  (hr : u ≤ 68719476736 ∧ v ≤ 68719476736) (hp : 0 ≤ p ∧ p ≤ 1)  : Ex E (d + 1) mX12_partOf 0 [.long (i64 (u : Int)), .retAddr 0, .long (i64 (v : Int)), .retAddr 0, .int (i32 p), .retAddr 0, .retAddr 0] [] h (fun r1 h1 => r1 = some (.long (i64 (if u = 0 then p else ltm u v p))) ∧ h1 = h) := by
  by_cases q : u = 0
  · refine Ex_lload_n dX12_partOf_0 rfl rfl ?_
    refine Ex_lconst (z := 0) dX12_partOf_1 rfl (by decide) ?_
    refine Ex_lcmp dX12_partOf_2 rfl (by omega) ?_
    refine Ex_if_ne (t := 10) dX12_partOf_3 rfl rfl (by rw [lcmp0]; split <;> omega) (fun c3 => absurd c3 (by rw [lcmp0] at c3; first | (rw [if_pos (by omega)] at c3; omega) | (rw [if_neg (by omega)] at c3; omega))) (fun c3 => ?_)
    refine Ex_iload dX12_partOf_6 rfl rfl ?_
    refine Ex_i2l dX12_partOf_8 rfl (by omega) ?_
    refine Ex_lret dX12_partOf_9 rfl ?_
    exact ⟨by rw [if_pos q], rfl⟩
  · have hgp : 0 < Nat.gcd u v := Nat.gcd_pos_of_pos_left v (by omega)
    have hgl : Nat.gcd u v ≤ 68719476736 := Nat.le_trans (Nat.gcd_le_left v (by omega)) hr.1
    by_cases hp0 : p = 0
    · refine Ex_lload_n dX12_partOf_0 rfl rfl ?_
      refine Ex_lconst (z := 0) dX12_partOf_1 rfl (by decide) ?_
      refine Ex_lcmp dX12_partOf_2 rfl (by omega) ?_
      refine Ex_if_ne (t := 10) dX12_partOf_3 rfl rfl (by rw [lcmp0]; split <;> omega) (fun c3 => ?_) (fun c3 => absurd c3 (by rw [lcmp0] at c3; first | (rw [if_pos (by omega)] at c3; omega) | (rw [if_neg (by omega)] at c3; omega)))
      refine Ex_lload_n dX12_partOf_10 rfl rfl ?_
      refine Ex_lload_n dX12_partOf_11 rfl rfl ?_
      refine Ex_stat 0 dX12_partOf_12 rfl rfl (Or.inl rfl) rfl rfl rfl rfl rfl rfl (Ex_post (x12_divisor (Or.inl (by omega)) hr) ?_)
      rintro _ _ ⟨rfl, e0⟩
      obtain rfl := Eq.symm e0
      refine Ex_lstore (L2 := [_, _, _, _, _, _, _]) dX12_partOf_15 rfl rfl rfl ?_
      refine Ex_iload dX12_partOf_17 rfl rfl ?_
      refine Ex_if_ne (t := 29) dX12_partOf_19 rfl rfl (by omega) (fun c19 => absurd c19 (by omega)) (fun c19 => ?_)
      refine Ex_lload_n dX12_partOf_22 rfl rfl ?_
      refine Ex_lload dX12_partOf_23 rfl rfl ?_
      refine Ex_ldiv dX12_partOf_25 rfl (by omega) (by omega) ?_
      refine Ex_goto (t := 33) dX12_partOf_26 rfl ?_
      refine Ex_lret dX12_partOf_33 rfl ?_
      exact ⟨by rw [if_neg q]; unfold ltm; rw [if_pos hp0, Nat.gcd_comm], rfl⟩
    · refine Ex_lload_n dX12_partOf_0 rfl rfl ?_
      refine Ex_lconst (z := 0) dX12_partOf_1 rfl (by decide) ?_
      refine Ex_lcmp dX12_partOf_2 rfl (by omega) ?_
      refine Ex_if_ne (t := 10) dX12_partOf_3 rfl rfl (by rw [lcmp0]; split <;> omega) (fun c3 => ?_) (fun c3 => absurd c3 (by rw [lcmp0] at c3; first | (rw [if_pos (by omega)] at c3; omega) | (rw [if_neg (by omega)] at c3; omega)))
      refine Ex_lload_n dX12_partOf_10 rfl rfl ?_
      refine Ex_lload_n dX12_partOf_11 rfl rfl ?_
      refine Ex_stat 0 dX12_partOf_12 rfl rfl (Or.inl rfl) rfl rfl rfl rfl rfl rfl (Ex_post (x12_divisor (Or.inl (by omega)) hr) ?_)
      rintro _ _ ⟨rfl, e0⟩
      obtain rfl := Eq.symm e0
      refine Ex_lstore (L2 := [_, _, _, _, _, _, _]) dX12_partOf_15 rfl rfl rfl ?_
      refine Ex_iload dX12_partOf_17 rfl rfl ?_
      refine Ex_if_ne (t := 29) dX12_partOf_19 rfl rfl (by omega) (fun c19 => ?_) (fun c19 => absurd c19 (by omega))
      refine Ex_lload_n dX12_partOf_29 rfl rfl ?_
      refine Ex_lload dX12_partOf_30 rfl rfl ?_
      refine Ex_ldiv dX12_partOf_32 rfl (by omega) (by omega) ?_
      refine Ex_lret dX12_partOf_33 rfl ?_
      exact ⟨by rw [if_neg q]; unfold ltm; rw [if_neg hp0, Nat.gcd_comm], rfl⟩
theorem x12_mean {E : am_E} {d : Nat} {h : Hp} {m n : Nat} {mm hi : Int} {K F T S C : Nat → Int} {σ : Nat → Nat → Int} {p : Int}  (I : MI h m (n, mm, K, F, T, S, C) hi σ) (hn6 : n ≤ 6) (hg : Rng n T S C) (hK : ∀ i, i < n → (0 ≤ K i ∧ K i ≤ 7) ∧ (0 ≤ F i ∧ F i ≤ 9)) (hB : E.2 ≤ m) (hp : (-2147483648 ≤ p ∧ p ≤ 2147483647))  : Ex E (d + 2) mX12_mean 0 [.ref m, .int (i32 p)] [] h (fun r1 h1 => r1 = some (.long (i64 (an_mean n S p))) ∧ MI h1 m (n, mm, K, F, T, S, C) hi σ ∧ Fr h h1 m (m + 23)) := by
  obtain ⟨g, ρ, kp, M, hn, h6, h23, hσ⟩ := I
  have M : MAt h m g K F T S C ρ kp := M
  have hn : g 0 = (n : Int) := hn
  have h6 : g 6 = mm := h6
  by_cases q : 0 ≤ p ∧ p ≤ 1
  · have hs := sm_r (f := S) (b := 7) (n := n) (by omega) (fun i hi => (hg i hi).2.1) n 0 (by omega)
    have ea : an_mean n S p = ltm (sm S 0 n).toNat (max 1 n) p := by unfold an_mean; exact if_pos q
    refine Ex_aload_n dX12_mean_0 rfl rfl ?_
    refine Ex_iconst dX12_mean_1 rfl ?_
    refine Ex_put12 (k0 := 13) (v := 0) dX12_mean_2 rfl (ma0 M) rfl rfl rfl rfl rfl (by omega) rfl ?_
    refine mg0 M ?_
    intro h1_ M1_ f1_
    refine Ex_iload_n dX12_mean_5 rfl rfl ?_
    refine Ex_i2l dX12_mean_6 rfl (by omega) ?_
    refine Ex_lconst (z := 0) dX12_mean_7 rfl (by decide) ?_
    refine Ex_lconst (z := 1) dX12_mean_8 rfl (by decide) ?_
    refine Ex_stat 0 dX12_mean_9 rfl rfl (Or.inl rfl) rfl rfl rfl rfl rfl rfl (Ex_post (x12_in (by omega) (by omega) (by omega)) ?_)
    rintro _ _ ⟨rfl, e0⟩
    obtain rfl := Eq.symm e0
    refine Ex_if_eq (t := 32) dX12_mean_12 rfl rfl (by omega) (fun c12 => absurd c12 (by omega)) (fun c12 => ?_)
    refine Ex_aload_n dX12_mean_15 rfl rfl ?_
    refine Ex_inv 2 dX12_mean_16 rfl rfl (Or.inl rfl) rfl rfl rfl rfl (ma0 M1_) rfl rfl rfl (Ex_post (x12_allSteps M1_ hn hn6 hg) ?_)
    rintro _ _ ⟨rfl, e0⟩
    obtain rfl := Eq.symm e0
    rw [show sm S 0 n = (((sm S 0 n).toNat : Nat) : Int) by omega]
    refine Ex_i2l dX12_mean_19 rfl (by omega) ?_
    refine Ex_aload_n dX12_mean_20 rfl rfl ?_
    refine Ex_getf dX12_mean_21 rfl (ma0 M1_) rfl rfl rfl ?_
    rw [show (fu g 13 0) 0 = g 0 from rfl]
    rw [hn]
    refine Ex_i2l dX12_mean_24 rfl (by omega) ?_
    refine Ex_iload_n dX12_mean_25 rfl rfl ?_
    refine Ex_stat 0 dX12_mean_26 rfl rfl (Or.inl rfl) rfl rfl rfl rfl rfl rfl (Ex_post (x12_partOf (u := (sm S 0 n).toNat) (v := n) (by omega) q) ?_)
    rintro _ _ ⟨rfl, e0⟩
    obtain rfl := Eq.symm e0
    refine Ex_goto (t := 35) dX12_mean_29 rfl ?_
    refine Ex_lret dX12_mean_35 rfl ?_
    refine ⟨?_, ⟨_, _, _, M1_, hn, h6, h23, hσ⟩, f1_⟩
    rw [ea]
    by_cases z : (sm S 0 n).toNat = 0
    · rw [if_pos z, part0 q z (by omega)]
    · rw [if_neg z, show max 1 n = n by
        by_cases zn : n = 0
        · subst zn; simp [sm] at z
        · omega]
  · refine Ex_aload_n dX12_mean_0 rfl rfl ?_
    refine Ex_iconst dX12_mean_1 rfl ?_
    refine Ex_put12 (k0 := 13) (v := 0) dX12_mean_2 rfl (ma0 M) rfl rfl rfl rfl rfl (by omega) rfl ?_
    refine mg0 M ?_
    intro h1_ M1_ f1_
    refine Ex_iload_n dX12_mean_5 rfl rfl ?_
    refine Ex_i2l dX12_mean_6 rfl (by omega) ?_
    refine Ex_lconst (z := 0) dX12_mean_7 rfl (by decide) ?_
    refine Ex_lconst (z := 1) dX12_mean_8 rfl (by decide) ?_
    refine Ex_stat 0 dX12_mean_9 rfl rfl (Or.inl rfl) rfl rfl rfl rfl rfl rfl (Ex_post (x12_in (by omega) (by omega) (by omega)) ?_)
    rintro _ _ ⟨rfl, e0⟩
    obtain rfl := Eq.symm e0
    refine Ex_if_eq (t := 32) dX12_mean_12 rfl rfl (by omega) (fun c12 => ?_) (fun c12 => absurd c12 (by omega))
    refine Ex_ldc2 (z := 1000000001) dX12_mean_32 rfl rfl ?_
    refine Ex_lret dX12_mean_35 rfl ?_
    exact ⟨by unfold an_mean; rw [if_neg q], ⟨_, _, _, M1_, hn, h6, h23, hσ⟩, f1_⟩
