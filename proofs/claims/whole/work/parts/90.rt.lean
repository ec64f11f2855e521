/-! the reference: orders by number (by program: wip/whole/spec_rt.py) -/
theorem or_free : ∀ c : Nat, c < 6 → ∀ u : Nat, u < 64 → u.testBit c = false → i32 (u : Int) ||| i32 ((2 : Int) ^ c) = i32 ((u + 2 ^ c : Nat) : Int) ∧ u + 2 ^ c < 64 := by decide +kernel
theorem nthU_v {n used : Nat} : ∀ (j idx c : Nat) {c9 : Nat}, nthU n used j idx c = some c9 → c9 < c + j ∧ used.testBit c9 = false
  | 0, idx, c, c9, h => by cases h
  | j + 1, idx, c, c9, h => by
    simp only [nthU] at h
    cases hb : used.testBit c with
    | true =>
      rw [hb, if_pos rfl] at h
      have := nthU_v j idx (c + 1) h
      exact ⟨by omega, this.2⟩
    | false =>
      rw [hb, if_neg (by decide)] at h
      by_cases e : idx = 0
      · rw [if_pos e] at h
        injection h with h
        subst h
        exact ⟨by omega, hb⟩
      · rw [if_neg e] at h
        have := nthU_v j (idx - 1) (c + 1) h
        exact ⟨by omega, this.2⟩
theorem fct_r : ∀ n, n ≤ 6 → 1 ≤ fct n ∧ fct n ≤ 720 := by decide
theorem x12_ordersOf {E : am_E} {d : Nat} {h : Hp} {n : Nat}  (hn6 : n ≤ 6)  : Ex E d mX12_ordersOf 0 [.int (i32 (n : Int)), .retAddr 0, .retAddr 0] [] h (fun r1 h1 => r1 = some (.int (i32 ((fct n : Nat) : Int))) ∧ h1 = h) := by
  rcases (show n = 0 ∨ n = 1 ∨ n = 2 ∨ n = 3 ∨ n = 4 ∨ n = 5 ∨ n = 6 by omega) with e | e | e | e | e | e | e
  · subst e
    refine Ex_iconst dX12_ordersOf_0 rfl ?_
    refine Ex_istore_n (L2 := [_, _, _]) dX12_ordersOf_1 rfl rfl rfl ?_
    refine Ex_iconst dX12_ordersOf_2 rfl ?_
    refine Ex_istore_n (L2 := [_, _, _]) dX12_ordersOf_3 rfl rfl rfl ?_
    refine Ex_iload_n dX12_ordersOf_4 rfl rfl ?_
    refine Ex_iload_n dX12_ordersOf_5 rfl rfl ?_
    refine Ex_icmp_gt (t := 19) dX12_ordersOf_6 rfl rfl (by omega) (fun c6 => ?_) (fun c6 => absurd c6 (by omega))
    refine Ex_iload_n dX12_ordersOf_19 rfl rfl ?_
    refine Ex_iret dX12_ordersOf_20 rfl rfl ?_
    exact ⟨ri (by decide), rfl⟩
  · subst e
    refine Ex_iconst dX12_ordersOf_0 rfl ?_
    refine Ex_istore_n (L2 := [_, _, _]) dX12_ordersOf_1 rfl rfl rfl ?_
    refine Ex_iconst dX12_ordersOf_2 rfl ?_
    refine Ex_istore_n (L2 := [_, _, _]) dX12_ordersOf_3 rfl rfl rfl ?_
    refine Ex_iload_n dX12_ordersOf_4 rfl rfl ?_
    refine Ex_iload_n dX12_ordersOf_5 rfl rfl ?_
    refine Ex_icmp_gt (t := 19) dX12_ordersOf_6 rfl rfl (by omega) (fun c6 => ?_) (fun c6 => absurd c6 (by omega))
    refine Ex_iload_n dX12_ordersOf_19 rfl rfl ?_
    refine Ex_iret dX12_ordersOf_20 rfl rfl ?_
    exact ⟨ri (by decide), rfl⟩
  · subst e
    refine Ex_iconst dX12_ordersOf_0 rfl ?_
    refine Ex_istore_n (L2 := [_, _, _]) dX12_ordersOf_1 rfl rfl rfl ?_
    refine Ex_iconst dX12_ordersOf_2 rfl ?_
    refine Ex_istore_n (L2 := [_, _, _]) dX12_ordersOf_3 rfl rfl rfl ?_
    refine Ex_iload_n dX12_ordersOf_4 rfl rfl ?_
    refine Ex_iload_n dX12_ordersOf_5 rfl rfl ?_
    refine Ex_icmp_gt (t := 19) dX12_ordersOf_6 rfl rfl (by omega) (fun c6 => absurd c6 (by omega)) (fun c6 => ?_)
    refine Ex_iload_n dX12_ordersOf_9 rfl rfl ?_
    refine Ex_iload_n dX12_ordersOf_10 rfl rfl ?_
    refine Ex_imul dX12_ordersOf_11 rfl ?_
    refine Ex_istore_n (L2 := [_, _, _]) dX12_ordersOf_12 rfl rfl rfl ?_
    refine Ex_iinc (L2 := [_, _, _]) dX12_ordersOf_13 rfl rfl rfl ?_
    refine Ex_goto (t := 4) dX12_ordersOf_16 rfl ?_
    refine Ex_iload_n dX12_ordersOf_4 rfl rfl ?_
    refine Ex_iload_n dX12_ordersOf_5 rfl rfl ?_
    refine Ex_icmp_gt (t := 19) dX12_ordersOf_6 rfl rfl (by omega) (fun c6 => ?_) (fun c6 => absurd c6 (by omega))
    refine Ex_iload_n dX12_ordersOf_19 rfl rfl ?_
    refine Ex_iret dX12_ordersOf_20 rfl rfl ?_
    exact ⟨ri (by decide), rfl⟩
  · subst e
    refine Ex_iconst dX12_ordersOf_0 rfl ?_
    refine Ex_istore_n (L2 := [_, _, _]) dX12_ordersOf_1 rfl rfl rfl ?_
    refine Ex_iconst dX12_ordersOf_2 rfl ?_
    refine Ex_istore_n (L2 := [_, _, _]) dX12_ordersOf_3 rfl rfl rfl ?_
    refine Ex_iload_n dX12_ordersOf_4 rfl rfl ?_
    refine Ex_iload_n dX12_ordersOf_5 rfl rfl ?_
    refine Ex_icmp_gt (t := 19) dX12_ordersOf_6 rfl rfl (by omega) (fun c6 => absurd c6 (by omega)) (fun c6 => ?_)
    refine Ex_iload_n dX12_ordersOf_9 rfl rfl ?_
    refine Ex_iload_n dX12_ordersOf_10 rfl rfl ?_
    refine Ex_imul dX12_ordersOf_11 rfl ?_
    refine Ex_istore_n (L2 := [_, _, _]) dX12_ordersOf_12 rfl rfl rfl ?_
    refine Ex_iinc (L2 := [_, _, _]) dX12_ordersOf_13 rfl rfl rfl ?_
    refine Ex_goto (t := 4) dX12_ordersOf_16 rfl ?_
    refine Ex_iload_n dX12_ordersOf_4 rfl rfl ?_
    refine Ex_iload_n dX12_ordersOf_5 rfl rfl ?_
    refine Ex_icmp_gt (t := 19) dX12_ordersOf_6 rfl rfl (by omega) (fun c6 => absurd c6 (by omega)) (fun c6 => ?_)
    refine Ex_iload_n dX12_ordersOf_9 rfl rfl ?_
    refine Ex_iload_n dX12_ordersOf_10 rfl rfl ?_
    refine Ex_imul dX12_ordersOf_11 rfl ?_
    refine Ex_istore_n (L2 := [_, _, _]) dX12_ordersOf_12 rfl rfl rfl ?_
    refine Ex_iinc (L2 := [_, _, _]) dX12_ordersOf_13 rfl rfl rfl ?_
    refine Ex_goto (t := 4) dX12_ordersOf_16 rfl ?_
    refine Ex_iload_n dX12_ordersOf_4 rfl rfl ?_
    refine Ex_iload_n dX12_ordersOf_5 rfl rfl ?_
    refine Ex_icmp_gt (t := 19) dX12_ordersOf_6 rfl rfl (by omega) (fun c6 => ?_) (fun c6 => absurd c6 (by omega))
    refine Ex_iload_n dX12_ordersOf_19 rfl rfl ?_
    refine Ex_iret dX12_ordersOf_20 rfl rfl ?_
    exact ⟨ri (by decide), rfl⟩
  · subst e
    refine Ex_iconst dX12_ordersOf_0 rfl ?_
    refine Ex_istore_n (L2 := [_, _, _]) dX12_ordersOf_1 rfl rfl rfl ?_
    refine Ex_iconst dX12_ordersOf_2 rfl ?_
    refine Ex_istore_n (L2 := [_, _, _]) dX12_ordersOf_3 rfl rfl rfl ?_
    refine Ex_iload_n dX12_ordersOf_4 rfl rfl ?_
    refine Ex_iload_n dX12_ordersOf_5 rfl rfl ?_
    refine Ex_icmp_gt (t := 19) dX12_ordersOf_6 rfl rfl (by omega) (fun c6 => absurd c6 (by omega)) (fun c6 => ?_)
    refine Ex_iload_n dX12_ordersOf_9 rfl rfl ?_
    refine Ex_iload_n dX12_ordersOf_10 rfl rfl ?_
    refine Ex_imul dX12_ordersOf_11 rfl ?_
    refine Ex_istore_n (L2 := [_, _, _]) dX12_ordersOf_12 rfl rfl rfl ?_
    refine Ex_iinc (L2 := [_, _, _]) dX12_ordersOf_13 rfl rfl rfl ?_
    refine Ex_goto (t := 4) dX12_ordersOf_16 rfl ?_
    refine Ex_iload_n dX12_ordersOf_4 rfl rfl ?_
    refine Ex_iload_n dX12_ordersOf_5 rfl rfl ?_
    refine Ex_icmp_gt (t := 19) dX12_ordersOf_6 rfl rfl (by omega) (fun c6 => absurd c6 (by omega)) (fun c6 => ?_)
    refine Ex_iload_n dX12_ordersOf_9 rfl rfl ?_
    refine Ex_iload_n dX12_ordersOf_10 rfl rfl ?_
    refine Ex_imul dX12_ordersOf_11 rfl ?_
    refine Ex_istore_n (L2 := [_, _, _]) dX12_ordersOf_12 rfl rfl rfl ?_
    refine Ex_iinc (L2 := [_, _, _]) dX12_ordersOf_13 rfl rfl rfl ?_
    refine Ex_goto (t := 4) dX12_ordersOf_16 rfl ?_
    refine Ex_iload_n dX12_ordersOf_4 rfl rfl ?_
    refine Ex_iload_n dX12_ordersOf_5 rfl rfl ?_
    refine Ex_icmp_gt (t := 19) dX12_ordersOf_6 rfl rfl (by omega) (fun c6 => absurd c6 (by omega)) (fun c6 => ?_)
    refine Ex_iload_n dX12_ordersOf_9 rfl rfl ?_
    refine Ex_iload_n dX12_ordersOf_10 rfl rfl ?_
    refine Ex_imul dX12_ordersOf_11 rfl ?_
    refine Ex_istore_n (L2 := [_, _, _]) dX12_ordersOf_12 rfl rfl rfl ?_
    refine Ex_iinc (L2 := [_, _, _]) dX12_ordersOf_13 rfl rfl rfl ?_
    refine Ex_goto (t := 4) dX12_ordersOf_16 rfl ?_
    refine Ex_iload_n dX12_ordersOf_4 rfl rfl ?_
    refine Ex_iload_n dX12_ordersOf_5 rfl rfl ?_
    refine Ex_icmp_gt (t := 19) dX12_ordersOf_6 rfl rfl (by omega) (fun c6 => ?_) (fun c6 => absurd c6 (by omega))
    refine Ex_iload_n dX12_ordersOf_19 rfl rfl ?_
    refine Ex_iret dX12_ordersOf_20 rfl rfl ?_
    exact ⟨ri (by decide), rfl⟩
  · subst e
    refine Ex_iconst dX12_ordersOf_0 rfl ?_
    refine Ex_istore_n (L2 := [_, _, _]) dX12_ordersOf_1 rfl rfl rfl ?_
    refine Ex_iconst dX12_ordersOf_2 rfl ?_
    refine Ex_istore_n (L2 := [_, _, _]) dX12_ordersOf_3 rfl rfl rfl ?_
    refine Ex_iload_n dX12_ordersOf_4 rfl rfl ?_
    refine Ex_iload_n dX12_ordersOf_5 rfl rfl ?_
    refine Ex_icmp_gt (t := 19) dX12_ordersOf_6 rfl rfl (by omega) (fun c6 => absurd c6 (by omega)) (fun c6 => ?_)
    refine Ex_iload_n dX12_ordersOf_9 rfl rfl ?_
    refine Ex_iload_n dX12_ordersOf_10 rfl rfl ?_
    refine Ex_imul dX12_ordersOf_11 rfl ?_
    refine Ex_istore_n (L2 := [_, _, _]) dX12_ordersOf_12 rfl rfl rfl ?_
    refine Ex_iinc (L2 := [_, _, _]) dX12_ordersOf_13 rfl rfl rfl ?_
    refine Ex_goto (t := 4) dX12_ordersOf_16 rfl ?_
    refine Ex_iload_n dX12_ordersOf_4 rfl rfl ?_
    refine Ex_iload_n dX12_ordersOf_5 rfl rfl ?_
    refine Ex_icmp_gt (t := 19) dX12_ordersOf_6 rfl rfl (by omega) (fun c6 => absurd c6 (by omega)) (fun c6 => ?_)
    refine Ex_iload_n dX12_ordersOf_9 rfl rfl ?_
    refine Ex_iload_n dX12_ordersOf_10 rfl rfl ?_
    refine Ex_imul dX12_ordersOf_11 rfl ?_
    refine Ex_istore_n (L2 := [_, _, _]) dX12_ordersOf_12 rfl rfl rfl ?_
    refine Ex_iinc (L2 := [_, _, _]) dX12_ordersOf_13 rfl rfl rfl ?_
    refine Ex_goto (t := 4) dX12_ordersOf_16 rfl ?_
    refine Ex_iload_n dX12_ordersOf_4 rfl rfl ?_
    refine Ex_iload_n dX12_ordersOf_5 rfl rfl ?_
    refine Ex_icmp_gt (t := 19) dX12_ordersOf_6 rfl rfl (by omega) (fun c6 => absurd c6 (by omega)) (fun c6 => ?_)
    refine Ex_iload_n dX12_ordersOf_9 rfl rfl ?_
    refine Ex_iload_n dX12_ordersOf_10 rfl rfl ?_
    refine Ex_imul dX12_ordersOf_11 rfl ?_
    refine Ex_istore_n (L2 := [_, _, _]) dX12_ordersOf_12 rfl rfl rfl ?_
    refine Ex_iinc (L2 := [_, _, _]) dX12_ordersOf_13 rfl rfl rfl ?_
    refine Ex_goto (t := 4) dX12_ordersOf_16 rfl ?_
    refine Ex_iload_n dX12_ordersOf_4 rfl rfl ?_
    refine Ex_iload_n dX12_ordersOf_5 rfl rfl ?_
    refine Ex_icmp_gt (t := 19) dX12_ordersOf_6 rfl rfl (by omega) (fun c6 => absurd c6 (by omega)) (fun c6 => ?_)
    refine Ex_iload_n dX12_ordersOf_9 rfl rfl ?_
    refine Ex_iload_n dX12_ordersOf_10 rfl rfl ?_
    refine Ex_imul dX12_ordersOf_11 rfl ?_
    refine Ex_istore_n (L2 := [_, _, _]) dX12_ordersOf_12 rfl rfl rfl ?_
    refine Ex_iinc (L2 := [_, _, _]) dX12_ordersOf_13 rfl rfl rfl ?_
    refine Ex_goto (t := 4) dX12_ordersOf_16 rfl ?_
    refine Ex_iload_n dX12_ordersOf_4 rfl rfl ?_
    refine Ex_iload_n dX12_ordersOf_5 rfl rfl ?_
    refine Ex_icmp_gt (t := 19) dX12_ordersOf_6 rfl rfl (by omega) (fun c6 => ?_) (fun c6 => absurd c6 (by omega))
    refine Ex_iload_n dX12_ordersOf_19 rfl rfl ?_
    refine Ex_iret dX12_ordersOf_20 rfl rfl ?_
    exact ⟨ri (by decide), rfl⟩
  · subst e
    refine Ex_iconst dX12_ordersOf_0 rfl ?_
    refine Ex_istore_n (L2 := [_, _, _]) dX12_ordersOf_1 rfl rfl rfl ?_
    refine Ex_iconst dX12_ordersOf_2 rfl ?_
    refine Ex_istore_n (L2 := [_, _, _]) dX12_ordersOf_3 rfl rfl rfl ?_
    refine Ex_iload_n dX12_ordersOf_4 rfl rfl ?_
    refine Ex_iload_n dX12_ordersOf_5 rfl rfl ?_
    refine Ex_icmp_gt (t := 19) dX12_ordersOf_6 rfl rfl (by omega) (fun c6 => absurd c6 (by omega)) (fun c6 => ?_)
    refine Ex_iload_n dX12_ordersOf_9 rfl rfl ?_
    refine Ex_iload_n dX12_ordersOf_10 rfl rfl ?_
    refine Ex_imul dX12_ordersOf_11 rfl ?_
    refine Ex_istore_n (L2 := [_, _, _]) dX12_ordersOf_12 rfl rfl rfl ?_
    refine Ex_iinc (L2 := [_, _, _]) dX12_ordersOf_13 rfl rfl rfl ?_
    refine Ex_goto (t := 4) dX12_ordersOf_16 rfl ?_
    refine Ex_iload_n dX12_ordersOf_4 rfl rfl ?_
    refine Ex_iload_n dX12_ordersOf_5 rfl rfl ?_
    refine Ex_icmp_gt (t := 19) dX12_ordersOf_6 rfl rfl (by omega) (fun c6 => absurd c6 (by omega)) (fun c6 => ?_)
    refine Ex_iload_n dX12_ordersOf_9 rfl rfl ?_
    refine Ex_iload_n dX12_ordersOf_10 rfl rfl ?_
    refine Ex_imul dX12_ordersOf_11 rfl ?_
    refine Ex_istore_n (L2 := [_, _, _]) dX12_ordersOf_12 rfl rfl rfl ?_
    refine Ex_iinc (L2 := [_, _, _]) dX12_ordersOf_13 rfl rfl rfl ?_
    refine Ex_goto (t := 4) dX12_ordersOf_16 rfl ?_
    refine Ex_iload_n dX12_ordersOf_4 rfl rfl ?_
    refine Ex_iload_n dX12_ordersOf_5 rfl rfl ?_
    refine Ex_icmp_gt (t := 19) dX12_ordersOf_6 rfl rfl (by omega) (fun c6 => absurd c6 (by omega)) (fun c6 => ?_)
    refine Ex_iload_n dX12_ordersOf_9 rfl rfl ?_
    refine Ex_iload_n dX12_ordersOf_10 rfl rfl ?_
    refine Ex_imul dX12_ordersOf_11 rfl ?_
    refine Ex_istore_n (L2 := [_, _, _]) dX12_ordersOf_12 rfl rfl rfl ?_
    refine Ex_iinc (L2 := [_, _, _]) dX12_ordersOf_13 rfl rfl rfl ?_
    refine Ex_goto (t := 4) dX12_ordersOf_16 rfl ?_
    refine Ex_iload_n dX12_ordersOf_4 rfl rfl ?_
    refine Ex_iload_n dX12_ordersOf_5 rfl rfl ?_
    refine Ex_icmp_gt (t := 19) dX12_ordersOf_6 rfl rfl (by omega) (fun c6 => absurd c6 (by omega)) (fun c6 => ?_)
    refine Ex_iload_n dX12_ordersOf_9 rfl rfl ?_
    refine Ex_iload_n dX12_ordersOf_10 rfl rfl ?_
    refine Ex_imul dX12_ordersOf_11 rfl ?_
    refine Ex_istore_n (L2 := [_, _, _]) dX12_ordersOf_12 rfl rfl rfl ?_
    refine Ex_iinc (L2 := [_, _, _]) dX12_ordersOf_13 rfl rfl rfl ?_
    refine Ex_goto (t := 4) dX12_ordersOf_16 rfl ?_
    refine Ex_iload_n dX12_ordersOf_4 rfl rfl ?_
    refine Ex_iload_n dX12_ordersOf_5 rfl rfl ?_
    refine Ex_icmp_gt (t := 19) dX12_ordersOf_6 rfl rfl (by omega) (fun c6 => absurd c6 (by omega)) (fun c6 => ?_)
    refine Ex_iload_n dX12_ordersOf_9 rfl rfl ?_
    refine Ex_iload_n dX12_ordersOf_10 rfl rfl ?_
    refine Ex_imul dX12_ordersOf_11 rfl ?_
    refine Ex_istore_n (L2 := [_, _, _]) dX12_ordersOf_12 rfl rfl rfl ?_
    refine Ex_iinc (L2 := [_, _, _]) dX12_ordersOf_13 rfl rfl rfl ?_
    refine Ex_goto (t := 4) dX12_ordersOf_16 rfl ?_
    refine Ex_iload_n dX12_ordersOf_4 rfl rfl ?_
    refine Ex_iload_n dX12_ordersOf_5 rfl rfl ?_
    refine Ex_icmp_gt (t := 19) dX12_ordersOf_6 rfl rfl (by omega) (fun c6 => ?_) (fun c6 => absurd c6 (by omega))
    refine Ex_iload_n dX12_ordersOf_19 rfl rfl ?_
    refine Ex_iret dX12_ordersOf_20 rfl rfl ?_
    exact ⟨ri (by decide), rfl⟩
theorem x12_lay_i {E : am_E} {d m n u : Nat} {h : Hp} {k0 rs ps f0 : Int} {Q : Option Value → Hp → Prop} (hn6 : n ≤ 6) (hu : u < 64) : ∀ (j idx c c9 : Nat), c + j = n → idx ≤ 720 → nthU n u j idx c = some c9 → (∀ z : Int, Ex E (d + 1) mX12_layOrder 80 [.ref m, .int (i32 k0), .int (i32 (n : Int)), .int (i32 rs), .int (i32 (u : Int)), .int (i32 ps), .int (i32 f0), .int (i32 z), .int (i32 (c9 : Int))] [] h Q) → Ex E (d + 1) mX12_layOrder 39 [.ref m, .int (i32 k0), .int (i32 (n : Int)), .int (i32 rs), .int (i32 (u : Int)), .int (i32 ps), .int (i32 f0), .int (i32 (idx : Int)), .int (i32 (c : Int))] [] h Q := by
  intro j
  induction j with
  | zero =>
    intro idx c c9 hk hi h9 kont
    cases h9
  | succ j ih =>
    intro idx c c9 hk hi h9 kont
    simp only [nthU] at h9
    cases hb : u.testBit c
    · rw [hb, if_neg (by decide)] at h9
      by_cases e : idx = 0
      · refine Ex_iload dX12_layOrder_39 rfl rfl ?_
        refine Ex_iload dX12_layOrder_41 rfl rfl ?_
        refine Ex_stat 0 dX12_layOrder_43 rfl rfl (Or.inl rfl) rfl rfl rfl rfl rfl rfl (Ex_post (x12_hasBit (by omega) (by omega)) ?_)
        rintro _ _ ⟨rfl, e0⟩
        obtain rfl := Eq.symm e0
        rw [hb]
        refine Ex_if_ne (t := 54) dX12_layOrder_46 rfl rfl (by simp) (fun c46 => absurd c46 (by simp at c46)) (fun c46 => ?_)
        refine Ex_iload dX12_layOrder_49 rfl rfl ?_
        refine Ex_if_le (t := 80) dX12_layOrder_51 rfl rfl (by omega) (fun c51 => ?_) (fun c51 => absurd c51 (by omega))
        rw [if_pos e] at h9
        injection h9 with h9
        subst h9
        exact kont _
      · refine Ex_iload dX12_layOrder_39 rfl rfl ?_
        refine Ex_iload dX12_layOrder_41 rfl rfl ?_
        refine Ex_stat 0 dX12_layOrder_43 rfl rfl (Or.inl rfl) rfl rfl rfl rfl rfl rfl (Ex_post (x12_hasBit (by omega) (by omega)) ?_)
        rintro _ _ ⟨rfl, e0⟩
        obtain rfl := Eq.symm e0
        rw [hb]
        refine Ex_if_ne (t := 54) dX12_layOrder_46 rfl rfl (by simp) (fun c46 => absurd c46 (by simp at c46)) (fun c46 => ?_)
        refine Ex_iload dX12_layOrder_49 rfl rfl ?_
        refine Ex_if_le (t := 80) dX12_layOrder_51 rfl rfl (by omega) (fun c51 => absurd c51 (by omega)) (fun c51 => ?_)
        refine Ex_iload dX12_layOrder_54 rfl rfl ?_
        refine Ex_iload dX12_layOrder_56 rfl rfl ?_
        refine Ex_iload dX12_layOrder_58 rfl rfl ?_
        refine Ex_stat 0 dX12_layOrder_60 rfl rfl (Or.inl rfl) rfl rfl rfl rfl rfl rfl (Ex_post (x12_hasBit (by omega) (by omega)) ?_)
        rintro _ _ ⟨rfl, e0⟩
        obtain rfl := Eq.symm e0
        rw [hb]
        refine Ex_if_eq (t := 70) dX12_layOrder_63 rfl rfl (by simp) (fun c63 => ?_) (fun c63 => absurd c63 (by simp at c63))
        refine Ex_iconst dX12_layOrder_70 rfl ?_
        refine Ex_isub dX12_layOrder_71 rfl ?_
        refine Ex_istore (L2 := [_, _, _, _, _, _, _, _, _]) dX12_layOrder_72 rfl rfl rfl ?_
        refine Ex_iinc (L2 := [_, _, _, _, _, _, _, _, _]) dX12_layOrder_74 rfl rfl rfl ?_
        refine Ex_goto (t := 39) dX12_layOrder_77 rfl ?_
        rw [if_neg e] at h9
        rw [show ((idx : Int) - 1) = ((idx - 1 : Nat) : Int) by omega]
        exact ih (idx - 1) (c + 1) c9 (by omega) (by omega) h9 kont
    · rw [hb, if_pos rfl] at h9
      refine Ex_iload dX12_layOrder_39 rfl rfl ?_
      refine Ex_iload dX12_layOrder_41 rfl rfl ?_
      refine Ex_stat 0 dX12_layOrder_43 rfl rfl (Or.inl rfl) rfl rfl rfl rfl rfl rfl (Ex_post (x12_hasBit (by omega) (by omega)) ?_)
      rintro _ _ ⟨rfl, e0⟩
      obtain rfl := Eq.symm e0
      rw [hb]
      refine Ex_if_ne (t := 54) dX12_layOrder_46 rfl rfl (by simp) (fun c46 => ?_) (fun c46 => absurd c46 (by simp at c46))
      refine Ex_iload dX12_layOrder_54 rfl rfl ?_
      refine Ex_iload dX12_layOrder_56 rfl rfl ?_
      refine Ex_iload dX12_layOrder_58 rfl rfl ?_
      refine Ex_stat 0 dX12_layOrder_60 rfl rfl (Or.inl rfl) rfl rfl rfl rfl rfl rfl (Ex_post (x12_hasBit (by omega) (by omega)) ?_)
      rintro _ _ ⟨rfl, e0⟩
      obtain rfl := Eq.symm e0
      rw [hb]
      refine Ex_if_eq (t := 70) dX12_layOrder_63 rfl rfl (by simp) (fun c63 => absurd c63 (by simp at c63)) (fun c63 => ?_)
      refine Ex_iconst dX12_layOrder_66 rfl ?_
      refine Ex_goto (t := 71) dX12_layOrder_67 rfl ?_
      refine Ex_isub dX12_layOrder_71 rfl ?_
      refine Ex_istore (L2 := [_, _, _, _, _, _, _, _, _]) dX12_layOrder_72 rfl rfl rfl ?_
      refine Ex_iinc (L2 := [_, _, _, _, _, _, _, _, _]) dX12_layOrder_74 rfl rfl rfl ?_
      refine Ex_goto (t := 39) dX12_layOrder_77 rfl ?_
      rw [show ((idx : Int) - 0) = (idx : Int) by omega]
      exact ih idx (c + 1) c9 (by omega) hi h9 kont
theorem x12_lay_l {E : am_E} {d m n : Nat} {k0 : Int} {g K F T S C : Nat → Int} {kp : Value} (hn6 : n ≤ 6) (hB : E.2 ≤ m) : ∀ (j ps rest u : Nat) (l : List Nat) (ρ : Nat → Nat → Int) (v6 v7 v8 : Value) (h : Hp), ps + j = n → rest ≤ 720 → u < 64 → layO n j rest u = some l → MAt h m g K F T S C ρ kp → Ex E (d + 1) mX12_layOrder 8 [.ref m, .int (i32 k0), .int (i32 (n : Int)), .int (i32 (rest : Int)), .int (i32 (u : Int)), .int (i32 (ps : Int)), v6, v7, v8] [] h (fun r1 h1 => r1 = none ∧ (∃ f2, MAt h1 m g K F T S C (fuR ρ 21 f2) kp ∧ (∀ i, i < j → f2 (ps + i) = ((l.getD i 0 : Nat) : Int)) ∧ ∀ i, i < ps → f2 i = ρ 21 i) ∧ Fr h h1 m (m + 23)) := by
  intro j
  induction j with
  | zero =>
    intro ps rest u l ρ v6 v7 v8 h hk hr hu hl M
    refine Ex_iload dX12_layOrder_8 rfl rfl ?_
    refine Ex_iload_n dX12_layOrder_10 rfl rfl ?_
    refine Ex_icmp_ge (t := 104) dX12_layOrder_11 rfl rfl (by omega) (fun c11 => ?_) (fun c11 => absurd c11 (by omega))
    refine Ex_vret dX12_layOrder_104 rfl ?_
    exact ⟨rfl, ⟨ρ 21, by rw [fuR_same]; exact M, fun i hi => by omega, fun _ _ => rfl⟩, Fr.rf _ _ _⟩
  | succ j ih =>
    intro ps rest u l ρ v6 v7 v8 h hk hr hu hl M
    have hf := fct_r j (by omega)
    simp only [layO] at hl
    cases h1 : nthU n u n (rest / fct j) 0 with
    | none => rw [h1] at hl; cases hl
    | some c =>
      rw [h1] at hl
      dsimp only at hl
      cases h2 : layO n j (rest % fct j) (u + 2 ^ c) with
      | none => rw [h2] at hl; cases hl
      | some l2 =>
        rw [h2] at hl
        dsimp only at hl
        injection hl with hl
        subst hl
        obtain ⟨hc1, hc2⟩ := nthU_v _ _ _ h1
        obtain ⟨o1, o2⟩ := or_free c (by omega) u hu hc2
        have hd1 : rest / fct j ≤ rest := Nat.div_le_self _ _
        have hd2 : rest % fct j ≤ rest := Nat.mod_le _ _
        refine Ex_iload dX12_layOrder_8 rfl rfl ?_
        refine Ex_iload_n dX12_layOrder_10 rfl rfl ?_
        refine Ex_icmp_ge (t := 104) dX12_layOrder_11 rfl rfl (by omega) (fun c11 => absurd c11 (by omega)) (fun c11 => ?_)
        refine Ex_iload_n dX12_layOrder_14 rfl rfl ?_
        refine Ex_iconst dX12_layOrder_15 rfl ?_
        refine Ex_isub dX12_layOrder_16 rfl ?_
        refine Ex_iload dX12_layOrder_17 rfl rfl ?_
        refine Ex_isub dX12_layOrder_19 rfl ?_
        rw [show ((n : Int) - 1 - (ps : Int)) = (j : Int) by omega]
        refine Ex_stat 0 dX12_layOrder_20 rfl rfl (Or.inl rfl) rfl rfl rfl rfl rfl rfl (Ex_post (x12_ordersOf (by omega)) ?_)
        rintro _ _ ⟨rfl, e0⟩
        obtain rfl := Eq.symm e0
        refine Ex_istore (L2 := [_, _, _, _, _, _, _, _, _]) dX12_layOrder_23 rfl rfl rfl ?_
        refine Ex_iload_n dX12_layOrder_25 rfl rfl ?_
        refine Ex_iload dX12_layOrder_26 rfl rfl ?_
        refine Ex_idiv dX12_layOrder_28 rfl (by omega) (by omega) ?_
        rw [show ((rest : Int) / ((fct j : Nat) : Int)) = ((rest / fct j : Nat) : Int) from rfl]
        refine Ex_istore (L2 := [_, _, _, _, _, _, _, _, _]) dX12_layOrder_29 rfl rfl rfl ?_
        refine Ex_iload_n dX12_layOrder_31 rfl rfl ?_
        refine Ex_iload dX12_layOrder_32 rfl rfl ?_
        refine Ex_irem dX12_layOrder_34 rfl (by omega) (by omega) ?_
        rw [show ((rest : Int) % ((fct j : Nat) : Int)) = ((rest % fct j : Nat) : Int) from rfl]
        refine Ex_istore_n (L2 := [_, _, _, _, _, _, _, _, _]) dX12_layOrder_35 rfl rfl rfl ?_
        refine Ex_iconst dX12_layOrder_36 rfl ?_
        refine Ex_istore (L2 := [_, _, _, _, _, _, _, _, _]) dX12_layOrder_37 rfl rfl rfl ?_
        refine x12_lay_i hn6 hu n (rest / fct j) 0 c (by omega) (by omega) h1 (fun z => ?_)
        refine Ex_aload_n dX12_layOrder_80 rfl rfl ?_
        refine Ex_getf dX12_layOrder_81 rfl (ma0 M) rfl rfl rfl ?_
        refine Ex_iload dX12_layOrder_84 rfl rfl ?_
        refine Ex_iload dX12_layOrder_86 rfl rfl ?_
        refine Ex_iast12 (c := ps) dX12_layOrder_88 rfl (ma21 M) (by omega) (by omega) (by omega) ?_
        refine mg21 M ?_
        intro h51_ M51_ f51_
        refine Ex_iload dX12_layOrder_89 rfl rfl ?_
        refine Ex_iconst dX12_layOrder_91 rfl ?_
        refine Ex_iload dX12_layOrder_92 rfl rfl ?_
        refine Ex_ishl (v := ((2 : Int) ^ c)) dX12_layOrder_94 rfl (shl_bit c (by omega)) ?_
        refine Ex_ior (v := ((u + 2 ^ c : Nat) : Int)) dX12_layOrder_95 rfl o1 ?_
        refine Ex_istore (L2 := [_, _, _, _, _, _, _, _, _]) dX12_layOrder_96 rfl rfl rfl ?_
        refine Ex_iinc (L2 := [_, _, _, _, _, _, _, _, _]) dX12_layOrder_98 rfl rfl rfl ?_
        refine Ex_goto (t := 8) dX12_layOrder_101 rfl ?_
        refine Ex_post (ih (ps + 1) (rest % fct j) (u + 2 ^ c) l2 _ _ _ _ h51_ (by omega) (by omega) o2 h2 M51_) ?_
        rintro r1 h8 ⟨rfl, ⟨f2, y1, y2, y3⟩, y4⟩
        rw [fuR_fuR] at y1
        refine ⟨rfl, ⟨f2, y1, fun i hi => ?_, fun i hi => ?_⟩, ((Fr.rf _ _ _).trans f51_).trans y4⟩
        · cases i with
          | zero => rw [Nat.add_zero, y3 ps (by omega), fuR_at, fu_at]; rfl
          | succ i =>
            have e := y2 i (by omega)
            rw [show ps + 1 + i = ps + (i + 1) by omega] at e
            rw [e]; rfl
        · rw [y3 i (by omega), fuR_at, fu_ne (by omega)]
theorem x12_layOrder {E : am_E} {d : Nat} {h : Hp} {m n k0 : Nat} {l : List Nat} {g K F T S C : Nat → Int} {ρ : Nat → Nat → Int} {kp : Value}  (M : MAt h m g K F T S C ρ kp) (hn6 : n ≤ 6) (hB : E.2 ≤ m) (hk : k0 ≤ 720) (hl : layO n n k0 0 = some l)  : Ex E (d + 1) mX12_layOrder 0 [.ref m, .int (i32 (k0 : Int)), .int (i32 (n : Int)), .retAddr 0, .retAddr 0, .retAddr 0, .retAddr 0, .retAddr 0, .retAddr 0] [] h (fun r1 h1 => r1 = none ∧ (∃ f2, MAt h1 m g K F T S C (fuR ρ 21 f2) kp ∧ ∀ i, i < n → f2 i = ((l.getD i 0 : Nat) : Int)) ∧ Fr h h1 m (m + 23)) := by
  refine Ex_iload_n dX12_layOrder_0 rfl rfl ?_
  refine Ex_istore_n (L2 := [_, _, _, _, _, _, _, _, _]) dX12_layOrder_1 rfl rfl rfl ?_
  refine Ex_iconst dX12_layOrder_2 rfl ?_
  refine Ex_istore (L2 := [_, _, _, _, _, _, _, _, _]) dX12_layOrder_3 rfl rfl rfl ?_
  refine Ex_iconst dX12_layOrder_5 rfl ?_
  refine Ex_istore (L2 := [_, _, _, _, _, _, _, _, _]) dX12_layOrder_6 rfl rfl rfl ?_
  refine Ex_post (x12_lay_l hn6 hB n 0 k0 0 l ρ _ _ _ h (by omega) hk (by omega) hl M) ?_
  rintro r1 h8 ⟨rfl, ⟨f2, y1, y2, y3⟩, y4⟩
  exact ⟨rfl, ⟨f2, y1, fun i hi => by have := y2 i hi; rw [Nat.zero_add] at this; exact this⟩, y4⟩
