/-! the reference: bits, groups, BY TURNS, FORGET (by program: wip/whole/spec_rg.py) -/
theorem hb_ok1 : ∀ k, k < 8 → ∀ b, b < 256 → i32 ((b : Nat) : Int) >>> (i32 ((k : Nat) : Int) &&& 31) = i32 (((b / 2 ^ k : Nat)) : Int) := by decide +kernel
theorem hb_ok2 : ∀ k, k < 8 → ∀ b, b < 256 → i32 (((b / 2 ^ k : Nat)) : Int) &&& i32 1 = i32 (if Nat.testBit b k then 1 else 0) := by decide +kernel
theorem on_ok : ∀ b, b < 256 → 0 < b → i32 ((b : Nat) : Int) &&& i32 ((b : Nat) - 1 : Int) = i32 ((b &&& (b - 1) : Nat) : Int) ∧ pop b = pop (b &&& (b - 1)) + 1 ∧ (b &&& (b - 1)) < b := by decide +kernel
theorem pop0 : pop 0 = 0 := by decide
theorem x12_hasBit {E : am_E} {d : Nat} {h : Hp} {b k : Nat}  (hb : b < 256) (hk : k < 8)  : Ex E d mX12_hasBit 0 [.int (i32 (b : Int)), .int (i32 (k : Int))] [] h (fun r1 h1 => r1 = some (.int (i32 (if b.testBit k = true then 1 else 0))) ∧ h1 = h) := by
  cases q : b.testBit k
  · skip
    refine Ex_iload_n dX12_hasBit_0 rfl rfl ?_
    refine Ex_iload_n dX12_hasBit_1 rfl rfl ?_
    refine Ex_ishr (v := ((b / 2 ^ k : Nat) : Int)) dX12_hasBit_2 rfl (hb_ok1 k hk b hb) ?_
    refine Ex_iconst dX12_hasBit_3 rfl ?_
    refine Ex_iand (v := (if Nat.testBit b k then 1 else 0)) dX12_hasBit_4 rfl (hb_ok2 k hk b hb) ?_
    refine Ex_iconst dX12_hasBit_5 rfl ?_
    refine Ex_icmp_ne (t := 13) dX12_hasBit_6 rfl rfl (by rw [q]; simp) (fun c6 => ?_) (fun c6 => absurd c6 (by rw [q] at c6; simp at c6))
    refine Ex_iconst dX12_hasBit_13 rfl ?_
    refine Ex_iret dX12_hasBit_14 rfl rfl ?_
    exact ⟨rfl, rfl⟩
  · skip
    refine Ex_iload_n dX12_hasBit_0 rfl rfl ?_
    refine Ex_iload_n dX12_hasBit_1 rfl rfl ?_
    refine Ex_ishr (v := ((b / 2 ^ k : Nat) : Int)) dX12_hasBit_2 rfl (hb_ok1 k hk b hb) ?_
    refine Ex_iconst dX12_hasBit_3 rfl ?_
    refine Ex_iand (v := (if Nat.testBit b k then 1 else 0)) dX12_hasBit_4 rfl (hb_ok2 k hk b hb) ?_
    refine Ex_iconst dX12_hasBit_5 rfl ?_
    refine Ex_icmp_ne (t := 13) dX12_hasBit_6 rfl rfl (by rw [q]; simp) (fun c6 => absurd c6 (by rw [q] at c6; simp at c6)) (fun c6 => ?_)
    refine Ex_iconst dX12_hasBit_9 rfl ?_
    refine Ex_goto (t := 14) dX12_hasBit_10 rfl ?_
    refine Ex_iret dX12_hasBit_14 rfl rfl ?_
    exact ⟨rfl, rfl⟩
theorem x12_onesOf_l {E : am_E} {d : Nat} {h : Hp} {x0 : Int32} : ∀ (k b : Nat) (a : Int), b ≤ k → b < 256 → Ex E d mX12_onesOf 4 [.int x0, .int (i32 a), .int (i32 (b : Int))] [] h (fun r1 h1 => r1 = some (.int (i32 (a + pop b))) ∧ h1 = h) := by
  intro k
  induction k with
  | zero =>
    intro b a hk hb
    obtain rfl : b = 0 := by omega
    refine Ex_iload_n dX12_onesOf_4 rfl rfl ?_
    refine Ex_if_eq (t := 20) dX12_onesOf_5 rfl rfl (by omega) (fun c5 => ?_) (fun c5 => absurd c5 (by omega))
    refine Ex_iload_n dX12_onesOf_20 rfl rfl ?_
    refine Ex_iret dX12_onesOf_21 rfl rfl ?_
    exact ⟨ri (by rw [pop0]; omega), rfl⟩
  | succ k ih =>
    intro b a hk hb
    by_cases q : b = 0
    · refine Ex_iload_n dX12_onesOf_4 rfl rfl ?_
      refine Ex_if_eq (t := 20) dX12_onesOf_5 rfl rfl (by omega) (fun c5 => ?_) (fun c5 => absurd c5 (by omega))
      refine Ex_iload_n dX12_onesOf_20 rfl rfl ?_
      refine Ex_iret dX12_onesOf_21 rfl rfl ?_
      exact ⟨ri (by rw [q, pop0]; omega), rfl⟩
    · have on1 := on_ok b hb (by omega)
      refine Ex_iload_n dX12_onesOf_4 rfl rfl ?_
      refine Ex_if_eq (t := 20) dX12_onesOf_5 rfl rfl (by omega) (fun c5 => absurd c5 (by omega)) (fun c5 => ?_)
      refine Ex_iinc (L2 := [_, _, _]) dX12_onesOf_8 rfl rfl rfl ?_
      refine Ex_iload_n dX12_onesOf_11 rfl rfl ?_
      refine Ex_iload_n dX12_onesOf_12 rfl rfl ?_
      refine Ex_iconst dX12_onesOf_13 rfl ?_
      refine Ex_isub dX12_onesOf_14 rfl ?_
      refine Ex_iand (v := ((b &&& (b - 1) : Nat) : Int)) dX12_onesOf_15 rfl on1.1 ?_
      refine Ex_istore_n (L2 := [_, _, _]) dX12_onesOf_16 rfl rfl rfl ?_
      refine Ex_goto (t := 4) dX12_onesOf_17 rfl ?_
      refine Ex_post (ih _ _ (by omega) (by omega)) ?_
      rintro _ _ ⟨rfl, rfl⟩
      exact ⟨ri (by rw [on1.2.1]; omega), rfl⟩
theorem x12_onesOf {E : am_E} {d : Nat} {h : Hp} {b : Nat}  (hb : b < 256)  : Ex E d mX12_onesOf 0 [.int (i32 (b : Int)), .retAddr 0, .retAddr 0] [] h (fun r1 h1 => r1 = some (.int (i32 (pop b))) ∧ h1 = h) := by
  refine Ex_iconst dX12_onesOf_0 rfl ?_
  refine Ex_istore_n (L2 := [_, _, _]) dX12_onesOf_1 rfl rfl rfl ?_
  refine Ex_iload_n dX12_onesOf_2 rfl rfl ?_
  refine Ex_istore_n (L2 := [_, _, _]) dX12_onesOf_3 rfl rfl rfl ?_
  refine Ex_post (x12_onesOf_l b b 0 (Nat.le_refl _) hb) ?_
  rintro _ _ ⟨rfl, rfl⟩
  exact ⟨ri (by omega), rfl⟩
theorem x12_group_i {E : am_E} {d : Nat} {h : Hp} {m n : Nat} {g K F T S C : Nat → Int} {ρ : Nat → Nat → Int} {kp : Value} {b : Nat} {v1 v2 v3 : Value} {Q : Option Value → Hp → Prop} (M : MAt h m g K F T S C ρ kp) (hn : g 0 = (n : Int)) (hn6 : n ≤ 6) (hK : ∀ i, i < n → (0 ≤ K i ∧ K i ≤ 7) ∧ (0 ≤ F i ∧ F i ≤ 9)) (hb : b < 64) : ∀ (k c : Nat) (a : Int), c + k = n → 0 ≤ a ∧ a ≤ 6 * c → (∀ v6 : Value, Ex E (d + 2) mX12_group 91 [.ref m, v1, v2, v3, .int (i32 (b : Int)), .int (i32 (a + sm (fun j => if b.testBit j then sp_holds (K j) (F j) else 0) c k)), v6] [] h Q) → Ex E (d + 2) mX12_group 51 [.ref m, v1, v2, v3, .int (i32 (b : Int)), .int (i32 a), .int (i32 (c : Int))] [] h Q := by
  intro k
  induction k with
  | zero =>
    intro c a hk ha kont
    refine Ex_iload dX12_group_51 rfl rfl ?_
    refine Ex_aload_n dX12_group_53 rfl rfl ?_
    refine Ex_getf dX12_group_54 rfl (ma0 M) rfl rfl rfl ?_
    refine Ex_icmp_ge (t := 91) dX12_group_57 rfl rfl (by omega) (fun c57 => ?_) (fun c57 => absurd c57 (by omega))
    have z := kont (.int (i32 (c : Int)))
    rw [show a + sm (fun j => if b.testBit j then sp_holds (K j) (F j) else 0) c 0 = a by show a + 0 = a; omega] at z
    exact z
  | succ k ih =>
    intro c a hk ha kont
    have hho := sp_holds_r (k := K c) (hK c (by omega)).2
    cases hq : b.testBit c
    · refine Ex_iload dX12_group_51 rfl rfl ?_
      refine Ex_aload_n dX12_group_53 rfl rfl ?_
      refine Ex_getf dX12_group_54 rfl (ma0 M) rfl rfl rfl ?_
      refine Ex_icmp_ge (t := 91) dX12_group_57 rfl rfl (by omega) (fun c57 => absurd c57 (by omega)) (fun c57 => ?_)
      refine Ex_iload dX12_group_60 rfl rfl ?_
      refine Ex_iload dX12_group_62 rfl rfl ?_
      refine Ex_iload dX12_group_64 rfl rfl ?_
      refine Ex_stat 0 dX12_group_66 rfl rfl (Or.inl rfl) rfl rfl rfl rfl rfl rfl (Ex_post (x12_hasBit (by omega) (by omega)) ?_)
      rintro _ _ ⟨rfl, e0⟩
      obtain rfl := Eq.symm e0
      rw [hq]
      refine Ex_if_eq (t := 81) dX12_group_69 rfl rfl (by simp) (fun c69 => ?_) (fun c69 => absurd c69 (by simp at c69))
      refine Ex_iconst dX12_group_81 rfl ?_
      refine Ex_iadd dX12_group_82 rfl ?_
      refine Ex_istore (L2 := [_, _, _, _, _, _, _]) dX12_group_83 rfl rfl rfl ?_
      refine Ex_iinc (L2 := [_, _, _, _, _, _, _]) dX12_group_85 rfl rfl rfl ?_
      refine Ex_goto (t := 51) dX12_group_88 rfl ?_
      refine ih (c + 1) _ (by omega) (by omega) (fun v6 => ?_)
      have z := kont v6
      rw [show sm (fun j => if b.testBit j then sp_holds (K j) (F j) else 0) c (k + 1) = (if b.testBit c then sp_holds (K c) (F c) else 0) + sm (fun j => if b.testBit j then sp_holds (K j) (F j) else 0) (c + 1) k from rfl, hq, ← Int.add_assoc] at z
      exact z
    · refine Ex_iload dX12_group_51 rfl rfl ?_
      refine Ex_aload_n dX12_group_53 rfl rfl ?_
      refine Ex_getf dX12_group_54 rfl (ma0 M) rfl rfl rfl ?_
      refine Ex_icmp_ge (t := 91) dX12_group_57 rfl rfl (by omega) (fun c57 => absurd c57 (by omega)) (fun c57 => ?_)
      refine Ex_iload dX12_group_60 rfl rfl ?_
      refine Ex_iload dX12_group_62 rfl rfl ?_
      refine Ex_iload dX12_group_64 rfl rfl ?_
      refine Ex_stat 0 dX12_group_66 rfl rfl (Or.inl rfl) rfl rfl rfl rfl rfl rfl (Ex_post (x12_hasBit (by omega) (by omega)) ?_)
      rintro _ _ ⟨rfl, e0⟩
      obtain rfl := Eq.symm e0
      rw [hq]
      refine Ex_if_eq (t := 81) dX12_group_69 rfl rfl (by simp) (fun c69 => absurd c69 (by simp at c69)) (fun c69 => ?_)
      refine Ex_aload_n dX12_group_72 rfl rfl ?_
      refine Ex_iload dX12_group_73 rfl rfl ?_
      refine Ex_inv 2 dX12_group_75 rfl rfl (Or.inl rfl) rfl rfl rfl rfl (ma0 M) rfl rfl rfl (Ex_post (x12_holdsOf M hn6 hK (by omega)) ?_)
      rintro _ _ ⟨rfl, e0⟩
      obtain rfl := Eq.symm e0
      refine Ex_goto (t := 82) dX12_group_78 rfl ?_
      refine Ex_iadd dX12_group_82 rfl ?_
      refine Ex_istore (L2 := [_, _, _, _, _, _, _]) dX12_group_83 rfl rfl rfl ?_
      refine Ex_iinc (L2 := [_, _, _, _, _, _, _]) dX12_group_85 rfl rfl rfl ?_
      refine Ex_goto (t := 51) dX12_group_88 rfl ?_
      refine ih (c + 1) _ (by omega) (by omega) (fun v6 => ?_)
      have z := kont v6
      rw [show sm (fun j => if b.testBit j then sp_holds (K j) (F j) else 0) c (k + 1) = (if b.testBit c then sp_holds (K c) (F c) else 0) + sm (fun j => if b.testBit j then sp_holds (K j) (F j) else 0) (c + 1) k from rfl, hq, ← Int.add_assoc] at z
      exact z
theorem x12_group_l {E : am_E} {d : Nat} {h : Hp} {m n : Nat} {g K F T S C : Nat → Int} {ρ : Nat → Nat → Int} {kp : Value} {hmax w : Int} {N : Nat}  (M : MAt h m g K F T S C ρ kp) (hn : g 0 = (n : Int)) (hn6 : n ≤ 6) (hK : ∀ i, i < n → (0 ≤ K i ∧ K i ≤ 7) ∧ (0 ≤ F i ∧ F i ≤ 9)) (hN : N = 2 ^ n) (hh : 0 ≤ hmax ∧ hmax ≤ 30) (hw : 0 ≤ w ∧ w ≤ 1)  : ∀ (k : Nat) (b best : Nat) (v5 v6 : Value), b + k = N → best < N → 1 ≤ b → Ex E (d + 2) mX12_group 34 [.ref m, .int (i32 hmax), .int (i32 w), .int (i32 (best : Int)), .int (i32 (b : Int)), v5, v6] [] h (fun r1 h1 => r1 = some (.int (i32 (if w = 0 then ((grp n (fun j => sp_holds (K j) (F j)) hmax b best k : Nat) : Int) else pop (grp n (fun j => sp_holds (K j) (F j)) hmax b best k)))) ∧ h1 = h) := by
  intro k
  induction k with
  | zero =>
    intro b best v5 v6 hk hbe hb1
    have hN6 : N ≤ 64 := by
      rw [hN]
      rcases (show n = 0 ∨ n = 1 ∨ n = 2 ∨ n = 3 ∨ n = 4 ∨ n = 5 ∨ n = 6 by omega) with e | e | e | e | e | e | e <;> rw [e] <;> decide
    have hNi : (2 : Int) ^ n = (N : Int) := by rw [hN]; exact (Int.natCast_pow 2 n).symm
    by_cases hw0 : w = 0
    · rw [if_pos hw0]
      refine Ex_iload dX12_group_34 rfl rfl ?_
      refine Ex_iconst dX12_group_36 rfl ?_
      refine Ex_aload_n dX12_group_37 rfl rfl ?_
      refine Ex_getf dX12_group_38 rfl (ma0 M) rfl rfl rfl ?_
      rw [hn]
      refine Ex_ishl (v := ((2 : Int) ^ n)) dX12_group_41 rfl (shl_bit n (by omega)) ?_
      rw [hNi]
      refine Ex_icmp_ge (t := 122) dX12_group_42 rfl rfl (by omega) (fun c42 => ?_) (fun c42 => absurd c42 (by omega))
      refine Ex_iload_n dX12_group_122 rfl rfl ?_
      refine Ex_if_ne (t := 130) dX12_group_123 rfl rfl (by omega) (fun c123 => absurd c123 (by omega)) (fun c123 => ?_)
      refine Ex_iload_n dX12_group_126 rfl rfl ?_
      refine Ex_goto (t := 134) dX12_group_127 rfl ?_
      refine Ex_iret dX12_group_134 rfl rfl ?_
      exact ⟨rfl, rfl⟩
    · rw [if_neg hw0]
      refine Ex_iload dX12_group_34 rfl rfl ?_
      refine Ex_iconst dX12_group_36 rfl ?_
      refine Ex_aload_n dX12_group_37 rfl rfl ?_
      refine Ex_getf dX12_group_38 rfl (ma0 M) rfl rfl rfl ?_
      rw [hn]
      refine Ex_ishl (v := ((2 : Int) ^ n)) dX12_group_41 rfl (shl_bit n (by omega)) ?_
      rw [hNi]
      refine Ex_icmp_ge (t := 122) dX12_group_42 rfl rfl (by omega) (fun c42 => ?_) (fun c42 => absurd c42 (by omega))
      refine Ex_iload_n dX12_group_122 rfl rfl ?_
      refine Ex_if_ne (t := 130) dX12_group_123 rfl rfl (by omega) (fun c123 => ?_) (fun c123 => absurd c123 (by omega))
      refine Ex_iload_n dX12_group_130 rfl rfl ?_
      refine Ex_stat 0 dX12_group_131 rfl rfl (Or.inl rfl) rfl rfl rfl rfl rfl rfl (Ex_post (x12_onesOf (by omega)) ?_)
      rintro _ _ ⟨rfl, e0⟩
      obtain rfl := Eq.symm e0
      refine Ex_iret dX12_group_134 rfl rfl ?_
      exact ⟨rfl, rfl⟩
  | succ k ih =>
    intro b best v5 v6 hk hbe hb1
    have hN6 : N ≤ 64 := by
      rw [hN]
      rcases (show n = 0 ∨ n = 1 ∨ n = 2 ∨ n = 3 ∨ n = 4 ∨ n = 5 ∨ n = 6 by omega) with e | e | e | e | e | e | e <;> rw [e] <;> decide
    have hNi : (2 : Int) ^ n = (N : Int) := by rw [hN]; exact (Int.natCast_pow 2 n).symm
    have p1 := pop_r b
    have p2 := pop_r best
    have hsb := sm_r (f := (fun j => if b.testBit j then sp_holds (K j) (F j) else 0)) (b := 6) (n := n) (by omega) (fun i hi => by have := sp_holds_r (k := K i) (hK i hi).2; (try dsimp only); split <;> omega) n 0 (by omega)
    have ea : grp n (fun j => sp_holds (K j) (F j)) hmax b best (k + 1) = if pop best < pop b ∧ sm (fun j => if b.testBit j then sp_holds (K j) (F j) else 0) 0 n ≤ hmax then grp n (fun j => sp_holds (K j) (F j)) hmax (b + 1) b k else grp n (fun j => sp_holds (K j) (F j)) hmax (b + 1) best k := rfl
    rw [ea]
    by_cases q : pop best < pop b ∧ sm (fun j => if b.testBit j then sp_holds (K j) (F j) else 0) 0 n ≤ hmax
    · rw [if_pos q]
      refine Ex_iload dX12_group_34 rfl rfl ?_
      refine Ex_iconst dX12_group_36 rfl ?_
      refine Ex_aload_n dX12_group_37 rfl rfl ?_
      refine Ex_getf dX12_group_38 rfl (ma0 M) rfl rfl rfl ?_
      rw [hn]
      refine Ex_ishl (v := ((2 : Int) ^ n)) dX12_group_41 rfl (shl_bit n (by omega)) ?_
      rw [hNi]
      refine Ex_icmp_ge (t := 122) dX12_group_42 rfl rfl (by omega) (fun c42 => absurd c42 (by omega)) (fun c42 => ?_)
      refine Ex_iconst dX12_group_45 rfl ?_
      refine Ex_istore (L2 := [_, _, _, _, _, _, _]) dX12_group_46 rfl rfl rfl ?_
      refine Ex_iconst dX12_group_48 rfl ?_
      refine Ex_istore (L2 := [_, _, _, _, _, _, _]) dX12_group_49 rfl rfl rfl ?_
      refine x12_group_i M hn hn6 hK (by omega) n 0 0 (by omega) (by omega) (fun v6 => ?_)
      rw [Int.zero_add]
      refine Ex_iload dX12_group_91 rfl rfl ?_
      refine Ex_iload_n dX12_group_93 rfl rfl ?_
      refine Ex_icmp_gt (t := 114) dX12_group_94 rfl rfl (by omega) (fun c94 => absurd c94 (by omega)) (fun c94 => ?_)
      refine Ex_iload dX12_group_97 rfl rfl ?_
      refine Ex_stat 0 dX12_group_99 rfl rfl (Or.inl rfl) rfl rfl rfl rfl rfl rfl (Ex_post (x12_onesOf (by omega)) ?_)
      rintro _ _ ⟨rfl, e0⟩
      obtain rfl := Eq.symm e0
      refine Ex_iload_n dX12_group_102 rfl rfl ?_
      refine Ex_stat 0 dX12_group_103 rfl rfl (Or.inl rfl) rfl rfl rfl rfl rfl rfl (Ex_post (x12_onesOf (by omega)) ?_)
      rintro _ _ ⟨rfl, e0⟩
      obtain rfl := Eq.symm e0
      refine Ex_icmp_le (t := 114) dX12_group_106 rfl rfl (by omega) (fun c106 => absurd c106 (by omega)) (fun c106 => ?_)
      refine Ex_iload dX12_group_109 rfl rfl ?_
      refine Ex_goto (t := 115) dX12_group_111 rfl ?_
      refine Ex_istore_n (L2 := [_, _, _, _, _, _, _]) dX12_group_115 rfl rfl rfl ?_
      refine Ex_iinc (L2 := [_, _, _, _, _, _, _]) dX12_group_116 rfl rfl rfl ?_
      refine Ex_goto (t := 34) dX12_group_119 rfl ?_
      exact ih (b + 1) b _ _ (by omega) (by omega) (by omega)
    · rw [if_neg q]
      refine Ex_iload dX12_group_34 rfl rfl ?_
      refine Ex_iconst dX12_group_36 rfl ?_
      refine Ex_aload_n dX12_group_37 rfl rfl ?_
      refine Ex_getf dX12_group_38 rfl (ma0 M) rfl rfl rfl ?_
      rw [hn]
      refine Ex_ishl (v := ((2 : Int) ^ n)) dX12_group_41 rfl (shl_bit n (by omega)) ?_
      rw [hNi]
      refine Ex_icmp_ge (t := 122) dX12_group_42 rfl rfl (by omega) (fun c42 => absurd c42 (by omega)) (fun c42 => ?_)
      refine Ex_iconst dX12_group_45 rfl ?_
      refine Ex_istore (L2 := [_, _, _, _, _, _, _]) dX12_group_46 rfl rfl rfl ?_
      refine Ex_iconst dX12_group_48 rfl ?_
      refine Ex_istore (L2 := [_, _, _, _, _, _, _]) dX12_group_49 rfl rfl rfl ?_
      refine x12_group_i M hn hn6 hK (by omega) n 0 0 (by omega) (by omega) (fun v6 => ?_)
      rw [Int.zero_add]
      refine Ex_iload dX12_group_91 rfl rfl ?_
      refine Ex_iload_n dX12_group_93 rfl rfl ?_
      refine Ex_icmp_gt (t := 114) dX12_group_94 rfl rfl (by omega) (fun c94 => ?_) (fun c94 => ?_)
      · refine Ex_iload_n dX12_group_114 rfl rfl ?_
        refine Ex_istore_n (L2 := [_, _, _, _, _, _, _]) dX12_group_115 rfl rfl rfl ?_
        refine Ex_iinc (L2 := [_, _, _, _, _, _, _]) dX12_group_116 rfl rfl rfl ?_
        refine Ex_goto (t := 34) dX12_group_119 rfl ?_
        exact ih (b + 1) best _ _ (by omega) (by omega) (by omega)
      · refine Ex_iload dX12_group_97 rfl rfl ?_
        refine Ex_stat 0 dX12_group_99 rfl rfl (Or.inl rfl) rfl rfl rfl rfl rfl rfl (Ex_post (x12_onesOf (by omega)) ?_)
        rintro _ _ ⟨rfl, e0⟩
        obtain rfl := Eq.symm e0
        refine Ex_iload_n dX12_group_102 rfl rfl ?_
        refine Ex_stat 0 dX12_group_103 rfl rfl (Or.inl rfl) rfl rfl rfl rfl rfl rfl (Ex_post (x12_onesOf (by omega)) ?_)
        rintro _ _ ⟨rfl, e0⟩
        obtain rfl := Eq.symm e0
        refine Ex_icmp_le (t := 114) dX12_group_106 rfl rfl (by omega) (fun c106 => ?_) (fun c106 => ?_)
        · refine Ex_iload_n dX12_group_114 rfl rfl ?_
          refine Ex_istore_n (L2 := [_, _, _, _, _, _, _]) dX12_group_115 rfl rfl rfl ?_
          refine Ex_iinc (L2 := [_, _, _, _, _, _, _]) dX12_group_116 rfl rfl rfl ?_
          refine Ex_goto (t := 34) dX12_group_119 rfl ?_
          exact ih (b + 1) best _ _ (by omega) (by omega) (by omega)
        · exfalso
          exact q ⟨by omega, by omega⟩
theorem x12_group {E : am_E} {d : Nat} {h : Hp} {m n : Nat} {mm hi : Int} {K F T S C : Nat → Int} {σ : Nat → Nat → Int} {hmax w : Int}  (I : MI h m (n, mm, K, F, T, S, C) hi σ) (hn6 : n ≤ 6) (hg : Rng n T S C) (hK : ∀ i, i < n → (0 ≤ K i ∧ K i ≤ 7) ∧ (0 ≤ F i ∧ F i ≤ 9)) (hB : E.2 ≤ m) (hh : (-2147483648 ≤ hmax ∧ hmax ≤ 2147483647)) (hw : (-2147483648 ≤ w ∧ w ≤ 2147483647))  : Ex E (d + 2) mX12_group 0 [.ref m, .int (i32 hmax), .int (i32 w), .retAddr 0, .retAddr 0, .retAddr 0, .retAddr 0] [] h (fun r1 h1 => r1 = some (.int (i32 (an_group n K F hmax w))) ∧ MI h1 m (n, mm, K, F, T, S, C) hi σ ∧ Fr h h1 m (m + 23)) := by
  obtain ⟨g, ρ, kp, M, hn, h6, h23, hσ⟩ := I
  have M : MAt h m g K F T S C ρ kp := M
  have hn : g 0 = (n : Int) := hn
  have h6 : g 6 = mm := h6
  by_cases q : (0 ≤ hmax ∧ hmax ≤ 30) ∧ (0 ≤ w ∧ w ≤ 1)
  · have ea : an_group n K F hmax w = if w = 0 then ((grp n (fun j => sp_holds (K j) (F j)) hmax 1 0 (2 ^ n - 1) : Nat) : Int) else pop (grp n (fun j => sp_holds (K j) (F j)) hmax 1 0 (2 ^ n - 1)) := by unfold an_group; exact if_pos q
    rw [ea]
    refine Ex_aload_n dX12_group_0 rfl rfl ?_
    refine Ex_iconst dX12_group_1 rfl ?_
    refine Ex_put12 (k0 := 13) (v := 0) dX12_group_2 rfl (ma0 M) rfl rfl rfl rfl rfl (by omega) rfl ?_
    refine mg0 M ?_
    intro h1_ M1_ f1_
    refine Ex_iload_n dX12_group_5 rfl rfl ?_
    refine Ex_i2l dX12_group_6 rfl (by omega) ?_
    refine Ex_lconst (z := 0) dX12_group_7 rfl (by decide) ?_
    refine Ex_ldc2 (z := 30) dX12_group_8 rfl rfl ?_
    refine Ex_stat 0 dX12_group_11 rfl rfl (Or.inl rfl) rfl rfl rfl rfl rfl rfl (Ex_post (x12_in (by omega) (by omega) (by omega)) ?_)
    rintro _ _ ⟨rfl, e0⟩
    obtain rfl := Eq.symm e0
    refine Ex_if_eq (t := 27) dX12_group_14 rfl rfl (by omega) (fun c14 => absurd c14 (by omega)) (fun c14 => ?_)
    refine Ex_iload_n dX12_group_17 rfl rfl ?_
    refine Ex_i2l dX12_group_18 rfl (by omega) ?_
    refine Ex_lconst (z := 0) dX12_group_19 rfl (by decide) ?_
    refine Ex_lconst (z := 1) dX12_group_20 rfl (by decide) ?_
    refine Ex_stat 0 dX12_group_21 rfl rfl (Or.inl rfl) rfl rfl rfl rfl rfl rfl (Ex_post (x12_in (by omega) (by omega) (by omega)) ?_)
    rintro _ _ ⟨rfl, e0⟩
    obtain rfl := Eq.symm e0
    refine Ex_if_ne (t := 29) dX12_group_24 rfl rfl (by omega) (fun c24 => ?_) (fun c24 => absurd c24 (by omega))
    refine Ex_iconst dX12_group_29 rfl ?_
    refine Ex_istore_n (L2 := [_, _, _, _, _, _, _]) dX12_group_30 rfl rfl rfl ?_
    refine Ex_iconst dX12_group_31 rfl ?_
    refine Ex_istore (L2 := [_, _, _, _, _, _, _]) dX12_group_32 rfl rfl rfl ?_
    have hp0 : 1 ≤ 2 ^ n := Nat.one_le_two_pow
    refine Ex_post (x12_group_l M1_ hn hn6 hK rfl q.1 q.2 (2 ^ n - 1) 1 0 _ _ (by omega) (by omega) (by omega)) ?_
    rintro _ _ ⟨rfl, e9⟩
    rw [e9]
    exact ⟨rfl, ⟨_, _, _, M1_, hn, h6, h23, hσ⟩, f1_⟩
  · refine Ex_aload_n dX12_group_0 rfl rfl ?_
    refine Ex_iconst dX12_group_1 rfl ?_
    refine Ex_put12 (k0 := 13) (v := 0) dX12_group_2 rfl (ma0 M) rfl rfl rfl rfl rfl (by omega) rfl ?_
    refine mg0 M ?_
    intro h1_ M1_ f1_
    refine Ex_iload_n dX12_group_5 rfl rfl ?_
    refine Ex_i2l dX12_group_6 rfl (by omega) ?_
    refine Ex_lconst (z := 0) dX12_group_7 rfl (by decide) ?_
    refine Ex_ldc2 (z := 30) dX12_group_8 rfl rfl ?_
    refine Ex_stat 0 dX12_group_11 rfl rfl (Or.inl rfl) rfl rfl rfl rfl rfl rfl (Ex_post (x12_in (by omega) (by omega) (by omega)) ?_)
    rintro _ _ ⟨rfl, e0⟩
    obtain rfl := Eq.symm e0
    refine Ex_if_eq (t := 27) dX12_group_14 rfl rfl (by omega) (fun c14 => ?_) (fun c14 => ?_)
    · refine Ex_iconst dX12_group_27 rfl ?_
      refine Ex_iret dX12_group_28 rfl rfl ?_
      exact ⟨ri (by unfold an_group; rw [if_neg q]), ⟨_, _, _, M1_, hn, h6, h23, hσ⟩, f1_⟩
    · refine Ex_iload_n dX12_group_17 rfl rfl ?_
      refine Ex_i2l dX12_group_18 rfl (by omega) ?_
      refine Ex_lconst (z := 0) dX12_group_19 rfl (by decide) ?_
      refine Ex_lconst (z := 1) dX12_group_20 rfl (by decide) ?_
      refine Ex_stat 0 dX12_group_21 rfl rfl (Or.inl rfl) rfl rfl rfl rfl rfl rfl (Ex_post (x12_in (by omega) (by omega) (by omega)) ?_)
      rintro _ _ ⟨rfl, e0⟩
      obtain rfl := Eq.symm e0
      refine Ex_if_ne (t := 29) dX12_group_24 rfl rfl (by omega) (fun c24 => ?_) (fun c24 => ?_)
      · exfalso; omega
      · refine Ex_iconst dX12_group_27 rfl ?_
        refine Ex_iret dX12_group_28 rfl rfl ?_
        exact ⟨ri (by unfold an_group; rw [if_neg q]), ⟨_, _, _, M1_, hn, h6, h23, hσ⟩, f1_⟩
theorem x12_closeI {E : am_E} {d m n : Nat} {h : Hp} {mt hi : Int} {g K F T0 S0 C0 K2 F2 T2 S2 C2 : Nat → Int} {ρ σ : Nat → Nat → Int} {kp : Value} (M : MAt h m g K2 F2 T2 S2 C2 ρ kp) (h23 : g 23 = hi) (hσ : ∀ j, (6 ≤ j ∧ j ≤ 11) ∨ j = 16 → ρ j = σ j) (hpk : ∀ i, i < 32 → ρ 15 i = pk (n, mt, K, F, T0, S0, C0) i) (hB : E.2 ≤ m) : Ex E (d + 2) mX12_close 0 [.ref m] [] h (fun r1 h1 => r1 = none ∧ MI h1 m (n, mt, K, F, T0, S0, C0) hi σ ∧ Fr h h1 m (m + 23)) := by
  refine Ex_post (x12_close M hpk hB) ?_
  rintro r1 h1 ⟨rfl, ⟨g2, M2, ⟨e0, e6⟩, eg⟩, f⟩
  exact ⟨rfl, ⟨g2, ρ, _, M2, e0, e6, by rw [eg _ (by decide) (by decide) (by decide) (by decide)]; exact h23, hσ⟩, f⟩
def nt (t : Int) : Int := if t = -4 then -4 else if t = 0 then 1 else 0
theorem x12_nextTurn_l {E : am_E} {d : Nat} {h : Hp} {m n : Nat} {g K F T S C : Nat → Int} {ρ : Nat → Nat → Int} {kp : Value} {tu : Nat}  (M : MAt h m g K F T S C ρ kp) (hn : g 0 = (n : Int)) (hn6 : n ≤ 6) (hg : Rng n T S C) (hK : ∀ i, i < n → (0 ≤ K i ∧ K i ≤ 7) ∧ (0 ≤ F i ∧ F i ≤ 9)) (hB : E.2 ≤ m) (h33 : g 33 = (tu : Int)) (htu : tu ≤ n)  : ∀ (k : Nat) (p : Nat) (v2 v3 : Value), p + k = n → Ex E (d + 5) mX12_nextTurn 2 [.ref m, .int (i32 (p : Int)), v2, v3] [] h (fun r1 h1 => r1 = some (.int (i32 (match nx S n tu p k with | none => -4 | some c => nt (twc K F (g 6, tu, T, S, C) c)))) ∧ (∃ g2, (match nx S n tu p k with | none => MAt h1 m g2 K F T S C ρ kp ∧ g2 = g | some c => MAt h1 m g2 K F (tsc K F n (g 6, tu, T, S, C) c).2.2.1 (tsc K F n (g 6, tu, T, S, C) c).2.2.2.1 (tsc K F n (g 6, tu, T, S, C) c).2.2.2.2 ρ kp ∧ g2 6 = (tsc K F n (g 6, tu, T, S, C) c).1 ∧ g2 33 = (((tsc K F n (g 6, tu, T, S, C) c).2.1 : Nat) : Int) ∧ ∀ j, j ≠ 6 → j ≠ 33 → g2 j = g j)) ∧ Fr h h1 m (m + 23)) := by
  intro k
  induction k with
  | zero =>
    intro p v2 v3 hk
    refine Ex_iload_n dX12_nextTurn_2 rfl rfl ?_
    refine Ex_aload_n dX12_nextTurn_3 rfl rfl ?_
    refine Ex_getf dX12_nextTurn_4 rfl (ma0 M) rfl rfl rfl ?_
    refine Ex_icmp_ge (t := 76) dX12_nextTurn_7 rfl rfl (by omega) (fun c7 => ?_) (fun c7 => absurd c7 (by omega))
    refine Ex_bipush dX12_nextTurn_76 rfl (by decide) ?_
    refine Ex_iret dX12_nextTurn_78 rfl rfl ?_
    exact ⟨rfl, ⟨g, M, rfl⟩, Fr.rf _ _ _⟩
  | succ k ih =>
    intro p v2 v3 hk
    have hn0 : 0 < n := by omega
    obtain ⟨c, hcd⟩ : ∃ c, c = (tu + p) % n := ⟨_, rfl⟩
    have hc : c < n := by rw [hcd]; exact Nat.mod_lt _ hn0
    have hmod : (g 33 + (p : Int)) % g 0 = (c : Int) := by rw [h33, hn, hcd]; rfl
    have hgc := hg c hc
    have enx : nx S n tu p (k + 1) = if S c < 7 then some c else nx S n tu (p + 1) k := by rw [hcd]; rfl
    rw [enx]
    by_cases q1 : S c < 7
    rw [if_pos q1]
    by_cases q2 : sp_needs (K c) (F c) (S c) ≤ T c
    · dsimp only
      have ew : twc K F (g 6, tu, T, S, C) c = 2 := by unfold twc; exact if_pos q2
      rw [ew]
      refine Ex_iload_n dX12_nextTurn_2 rfl rfl ?_
      refine Ex_aload_n dX12_nextTurn_3 rfl rfl ?_
      refine Ex_getf dX12_nextTurn_4 rfl (ma0 M) rfl rfl rfl ?_
      refine Ex_icmp_ge (t := 76) dX12_nextTurn_7 rfl rfl (by omega) (fun c7 => absurd c7 (by omega)) (fun c7 => ?_)
      refine Ex_aload_n dX12_nextTurn_10 rfl rfl ?_
      refine Ex_getf dX12_nextTurn_11 rfl (ma0 M) rfl rfl rfl ?_
      refine Ex_iload_n dX12_nextTurn_14 rfl rfl ?_
      refine Ex_iadd dX12_nextTurn_15 rfl ?_
      refine Ex_aload_n dX12_nextTurn_16 rfl rfl ?_
      refine Ex_getf dX12_nextTurn_17 rfl (ma0 M) rfl rfl rfl ?_
      refine Ex_irem dX12_nextTurn_20 rfl (by omega) (by omega) ?_
      rw [hmod]
      refine Ex_istore_n (L2 := [_, _, _, _]) dX12_nextTurn_21 rfl rfl rfl ?_
      refine Ex_aload_n dX12_nextTurn_22 rfl rfl ?_
      refine Ex_getf dX12_nextTurn_23 rfl (ma0 M) rfl rfl rfl ?_
      refine Ex_iload_n dX12_nextTurn_26 rfl rfl ?_
      refine Ex_iald12 dX12_nextTurn_27 rfl (ma4 M) rfl (by omega) ?_
      refine Ex_bipush dX12_nextTurn_28 rfl (by decide) ?_
      refine Ex_icmp_ge (t := 70) dX12_nextTurn_30 rfl rfl (by omega) (fun c30 => absurd c30 (by omega)) (fun c30 => ?_)
      refine Ex_aload_n dX12_nextTurn_33 rfl rfl ?_
      refine Ex_iload_n dX12_nextTurn_34 rfl rfl ?_
      refine Ex_inv 2 dX12_nextTurn_35 rfl rfl (Or.inl rfl) rfl rfl rfl rfl (ma0 M) rfl rfl rfl (Ex_post (x12_isReady M hn6 hg hK hc) ?_)
      rintro _ _ ⟨rfl, e0⟩
      obtain rfl := Eq.symm e0
      rw [if_pos ⟨q1, q2⟩]
      refine Ex_istore_n (L2 := [_, _, _, _]) dX12_nextTurn_38 rfl rfl rfl ?_
      refine Ex_aload_n dX12_nextTurn_39 rfl rfl ?_
      refine Ex_iload_n dX12_nextTurn_40 rfl rfl ?_
      refine Ex_iload_n dX12_nextTurn_41 rfl rfl ?_
      refine Ex_if_eq (t := 49) dX12_nextTurn_42 rfl rfl (by omega) (fun c42 => absurd c42 (by omega)) (fun c42 => ?_)
      refine Ex_iconst dX12_nextTurn_45 rfl ?_
      refine Ex_goto (t := 50) dX12_nextTurn_46 rfl ?_
      refine Ex_inv 2 dX12_nextTurn_50 rfl rfl (Or.inl rfl) rfl rfl rfl rfl (ma0 M) rfl rfl rfl (Ex_post (x12_goMinute M hn hn6 hg hK hB hc q1 (by omega)) ?_)
      rintro _ h1_ ⟨rfl, M1_, f1_⟩
      refine Ex_aload_n dX12_nextTurn_53 rfl rfl ?_
      refine Ex_iload_n dX12_nextTurn_54 rfl rfl ?_
      refine Ex_iconst dX12_nextTurn_55 rfl ?_
      refine Ex_iadd dX12_nextTurn_56 rfl ?_
      refine Ex_put12 (k0 := 33) (v := ((c : Int) + 1)) dX12_nextTurn_57 rfl (ma0 M1_) rfl rfl rfl rfl rfl (by omega) rfl ?_
      refine mg0 M1_ ?_
      intro h2_ M2_ f2_
      refine Ex_iload_n dX12_nextTurn_60 rfl rfl ?_
      refine Ex_if_eq (t := 68) dX12_nextTurn_61 rfl rfl (by omega) (fun c61 => absurd c61 (by omega)) (fun c61 => ?_)
      refine Ex_iconst dX12_nextTurn_64 rfl ?_
      refine Ex_goto (t := 69) dX12_nextTurn_65 rfl ?_
      refine Ex_iret dX12_nextTurn_69 rfl rfl ?_
      refine ⟨rfl, ⟨(fu (fu g 6 (g 6 + 1)) 33 ((c : Int) + 1)), ?_, ?_, ?_, fun j j1 j2 => ?_⟩, (f1_.trans f2_)⟩
      · simp only [tsc, ew]; exact M2_
      · rfl
      · show (c : Int) + 1 = ((c + 1 : Nat) : Int); omega
      · rw [fu_ne j2, fu_ne j1]
    · dsimp only
      have ew : twc K F (g 6, tu, T, S, C) c = 0 := by unfold twc; exact if_neg q2
      rw [ew]
      refine Ex_iload_n dX12_nextTurn_2 rfl rfl ?_
      refine Ex_aload_n dX12_nextTurn_3 rfl rfl ?_
      refine Ex_getf dX12_nextTurn_4 rfl (ma0 M) rfl rfl rfl ?_
      refine Ex_icmp_ge (t := 76) dX12_nextTurn_7 rfl rfl (by omega) (fun c7 => absurd c7 (by omega)) (fun c7 => ?_)
      refine Ex_aload_n dX12_nextTurn_10 rfl rfl ?_
      refine Ex_getf dX12_nextTurn_11 rfl (ma0 M) rfl rfl rfl ?_
      refine Ex_iload_n dX12_nextTurn_14 rfl rfl ?_
      refine Ex_iadd dX12_nextTurn_15 rfl ?_
      refine Ex_aload_n dX12_nextTurn_16 rfl rfl ?_
      refine Ex_getf dX12_nextTurn_17 rfl (ma0 M) rfl rfl rfl ?_
      refine Ex_irem dX12_nextTurn_20 rfl (by omega) (by omega) ?_
      rw [hmod]
      refine Ex_istore_n (L2 := [_, _, _, _]) dX12_nextTurn_21 rfl rfl rfl ?_
      refine Ex_aload_n dX12_nextTurn_22 rfl rfl ?_
      refine Ex_getf dX12_nextTurn_23 rfl (ma0 M) rfl rfl rfl ?_
      refine Ex_iload_n dX12_nextTurn_26 rfl rfl ?_
      refine Ex_iald12 dX12_nextTurn_27 rfl (ma4 M) rfl (by omega) ?_
      refine Ex_bipush dX12_nextTurn_28 rfl (by decide) ?_
      refine Ex_icmp_ge (t := 70) dX12_nextTurn_30 rfl rfl (by omega) (fun c30 => absurd c30 (by omega)) (fun c30 => ?_)
      refine Ex_aload_n dX12_nextTurn_33 rfl rfl ?_
      refine Ex_iload_n dX12_nextTurn_34 rfl rfl ?_
      refine Ex_inv 2 dX12_nextTurn_35 rfl rfl (Or.inl rfl) rfl rfl rfl rfl (ma0 M) rfl rfl rfl (Ex_post (x12_isReady M hn6 hg hK hc) ?_)
      rintro _ _ ⟨rfl, e0⟩
      obtain rfl := Eq.symm e0
      rw [if_neg (fun z => q2 z.2)]
      refine Ex_istore_n (L2 := [_, _, _, _]) dX12_nextTurn_38 rfl rfl rfl ?_
      refine Ex_aload_n dX12_nextTurn_39 rfl rfl ?_
      refine Ex_iload_n dX12_nextTurn_40 rfl rfl ?_
      refine Ex_iload_n dX12_nextTurn_41 rfl rfl ?_
      refine Ex_if_eq (t := 49) dX12_nextTurn_42 rfl rfl (by omega) (fun c42 => ?_) (fun c42 => absurd c42 (by omega))
      refine Ex_iconst dX12_nextTurn_49 rfl ?_
      refine Ex_inv 2 dX12_nextTurn_50 rfl rfl (Or.inl rfl) rfl rfl rfl rfl (ma0 M) rfl rfl rfl (Ex_post (x12_goMinute M hn hn6 hg hK hB hc q1 (by omega)) ?_)
      rintro _ h1_ ⟨rfl, M1_, f1_⟩
      refine Ex_aload_n dX12_nextTurn_53 rfl rfl ?_
      refine Ex_iload_n dX12_nextTurn_54 rfl rfl ?_
      refine Ex_iconst dX12_nextTurn_55 rfl ?_
      refine Ex_iadd dX12_nextTurn_56 rfl ?_
      refine Ex_put12 (k0 := 33) (v := ((c : Int) + 1)) dX12_nextTurn_57 rfl (ma0 M1_) rfl rfl rfl rfl rfl (by omega) rfl ?_
      refine mg0 M1_ ?_
      intro h2_ M2_ f2_
      refine Ex_iload_n dX12_nextTurn_60 rfl rfl ?_
      refine Ex_if_eq (t := 68) dX12_nextTurn_61 rfl rfl (by omega) (fun c61 => ?_) (fun c61 => absurd c61 (by omega))
      refine Ex_iconst dX12_nextTurn_68 rfl ?_
      refine Ex_iret dX12_nextTurn_69 rfl rfl ?_
      refine ⟨rfl, ⟨(fu (fu g 6 (g 6 + 1)) 33 ((c : Int) + 1)), ?_, ?_, ?_, fun j j1 j2 => ?_⟩, (f1_.trans f2_)⟩
      · simp only [tsc, ew]; exact M2_
      · rfl
      · show (c : Int) + 1 = ((c + 1 : Nat) : Int); omega
      · rw [fu_ne j2, fu_ne j1]
    · rw [if_neg q1]
      refine Ex_iload_n dX12_nextTurn_2 rfl rfl ?_
      refine Ex_aload_n dX12_nextTurn_3 rfl rfl ?_
      refine Ex_getf dX12_nextTurn_4 rfl (ma0 M) rfl rfl rfl ?_
      refine Ex_icmp_ge (t := 76) dX12_nextTurn_7 rfl rfl (by omega) (fun c7 => absurd c7 (by omega)) (fun c7 => ?_)
      refine Ex_aload_n dX12_nextTurn_10 rfl rfl ?_
      refine Ex_getf dX12_nextTurn_11 rfl (ma0 M) rfl rfl rfl ?_
      refine Ex_iload_n dX12_nextTurn_14 rfl rfl ?_
      refine Ex_iadd dX12_nextTurn_15 rfl ?_
      refine Ex_aload_n dX12_nextTurn_16 rfl rfl ?_
      refine Ex_getf dX12_nextTurn_17 rfl (ma0 M) rfl rfl rfl ?_
      refine Ex_irem dX12_nextTurn_20 rfl (by omega) (by omega) ?_
      rw [hmod]
      refine Ex_istore_n (L2 := [_, _, _, _]) dX12_nextTurn_21 rfl rfl rfl ?_
      refine Ex_aload_n dX12_nextTurn_22 rfl rfl ?_
      refine Ex_getf dX12_nextTurn_23 rfl (ma0 M) rfl rfl rfl ?_
      refine Ex_iload_n dX12_nextTurn_26 rfl rfl ?_
      refine Ex_iald12 dX12_nextTurn_27 rfl (ma4 M) rfl (by omega) ?_
      refine Ex_bipush dX12_nextTurn_28 rfl (by decide) ?_
      refine Ex_icmp_ge (t := 70) dX12_nextTurn_30 rfl rfl (by omega) (fun c30 => ?_) (fun c30 => absurd c30 (by omega))
      refine Ex_iinc (L2 := [_, _, _, _]) dX12_nextTurn_70 rfl rfl rfl ?_
      refine Ex_goto (t := 2) dX12_nextTurn_73 rfl ?_
      exact ih (p + 1) _ _ (by omega)
theorem x12_nextTurn {E : am_E} {d m n : Nat} {h : Hp} {g K F : Nat → Int} {ρ : Nat → Nat → Int} {kp : Value} {X : TS} (M : MAt h m g K F X.2.2.1 X.2.2.2.1 X.2.2.2.2 ρ kp) (hn : g 0 = (n : Int)) (hn6 : n ≤ 6) (hg : RngX n X) (hK : ∀ i, i < n → (0 ≤ K i ∧ K i ≤ 7) ∧ (0 ≤ F i ∧ F i ≤ 9)) (hB : E.2 ≤ m) (h6 : g 6 = X.1) (h33 : g 33 = (X.2.1 : Int)) (htu : X.2.1 ≤ n) : Ex E (d + 5) mX12_nextTurn 0 [.ref m, .retAddr 0, .retAddr 0, .retAddr 0] [] h (fun r1 h1 => r1 = some (.int (i32 (nt (tw K F n X)))) ∧ (∃ g2, MAt h1 m g2 K F (tst K F n X).2.2.1 (tst K F n X).2.2.2.1 (tst K F n X).2.2.2.2 ρ kp ∧ g2 6 = (tst K F n X).1 ∧ g2 33 = (((tst K F n X).2.1 : Nat) : Int) ∧ ∀ j, j ≠ 6 → j ≠ 33 → g2 j = g j) ∧ Fr h h1 m (m + 23)) := by
  obtain ⟨mi, tu, T, S, C⟩ := X
  refine Ex_iconst dX12_nextTurn_0 rfl ?_
  refine Ex_istore_n (L2 := [_, _, _, _]) dX12_nextTurn_1 rfl rfl rfl ?_
  refine Ex_post (x12_nextTurn_l M hn hn6 hg hK hB h33 htu n 0 _ _ (by omega)) ?_
  rintro r1 h1 ⟨rfl, ⟨g2, y⟩, y2⟩
  have h6 : g 6 = mi := h6
  rw [h6] at y ⊢
  unfold tw tst
  dsimp only at y ⊢
  cases hx : nx S n tu 0 n with
  | none =>
    rw [hx] at y
    dsimp only at y ⊢
    obtain ⟨y, rfl⟩ := y
    exact ⟨rfl, ⟨_, y, h6, h33, fun _ _ _ => rfl⟩, y2⟩
  | some c =>
    rw [hx] at y
    dsimp only at y ⊢
    exact ⟨rfl, ⟨g2, y⟩, y2⟩
theorem x12_byTurns_l {E : am_E} {d : Nat} {m n : Nat} {mt hi : Int} {K F T0 S0 C0 : Nat → Int} {σ : Nat → Nat → Int} {l w : Int}  (hn6 : n ≤ 6) (hK : ∀ i, i < n → (0 ≤ K i ∧ K i ≤ 7) ∧ (0 ≤ F i ∧ F i ≤ 9)) (hB : E.2 ≤ m) (hl : 0 ≤ l ∧ l ≤ 99) (hw : 0 ≤ w ∧ w ≤ 1)  : ∀ (k : Nat) (i held : Int) (X : TS) (g : Nat → Int) (ρ : Nat → Nat → Int) (kp : Value) (h : Hp), i + k = l → 0 ≤ i → MAt h m g K F X.2.2.1 X.2.2.2.1 X.2.2.2.2 ρ kp → g 0 = (n : Int) → g 6 = X.1 → g 33 = (X.2.1 : Int) → g 23 = hi → (∀ j, (6 ≤ j ∧ j ≤ 11) ∨ j = 16 → ρ j = σ j) → (∀ i, i < 32 → ρ 15 i = pk (n, mt, K, F, T0, S0, C0) i) → RngX n X → X.2.1 ≤ n → Ex E (d + 6) mX12_byTurns 43 [.ref m, .int (i32 l), .int (i32 w), .int (i32 held), .int (i32 i)] [] h (fun r1 h1 => r1 = some (.int (i32 (byA K F n X held w k))) ∧ MI h1 m (n, mt, K, F, T0, S0, C0) hi σ ∧ Fr h h1 m (m + 23)) := by
  intro k
  induction k with
  | zero =>
    intro i held X g ρ kp h  hk hi0 M hn h6 h33 h23 hσ hpk hgX htu
    have hb := bt_256 (p := swB X.2.2.2.1) hn6
    by_cases hw0 : w = 0
    · have ea : byA K F n X held w 0 = pop (bt (swB X.2.2.2.1) 0 n).toNat := by unfold byA; rw [if_pos hw0]; rfl
      rw [ea]
      refine Ex_iload dX12_byTurns_43 rfl rfl ?_
      refine Ex_iload_n dX12_byTurns_45 rfl rfl ?_
      refine Ex_icmp_ge (t := 71) dX12_byTurns_46 rfl rfl (by omega) (fun c46 => ?_) (fun c46 => absurd c46 (by omega))
      refine Ex_aload_n dX12_byTurns_71 rfl rfl ?_
      refine Ex_inv 2 dX12_byTurns_72 rfl rfl (Or.inl rfl) rfl rfl rfl rfl (ma0 M) rfl rfl rfl (Ex_post (x12_swimBits M hn hn6 hgX hK) ?_)
      rintro _ _ ⟨rfl, e0⟩
      obtain rfl := Eq.symm e0
      rw [show bt (swB X.2.2.2.1) 0 n = (((bt (swB X.2.2.2.1) 0 n).toNat : Nat) : Int) by omega]
      refine Ex_stat 0 dX12_byTurns_75 rfl rfl (Or.inl rfl) rfl rfl rfl rfl rfl rfl (Ex_post (x12_onesOf (by omega)) ?_)
      rintro _ _ ⟨rfl, e0⟩
      obtain rfl := Eq.symm e0
      refine Ex_istore (L2 := [_, _, _, _, _]) dX12_byTurns_78 rfl rfl rfl ?_
      refine Ex_aload_n dX12_byTurns_80 rfl rfl ?_
      refine Ex_inv 2 dX12_byTurns_81 rfl rfl (Or.inl rfl) rfl rfl rfl rfl (ma0 M) rfl rfl rfl (Ex_post (x12_closeI M h23 hσ hpk hB) ?_)
      rintro _ h9 ⟨rfl, y1, y2⟩
      refine Ex_iload_n dX12_byTurns_84 rfl rfl ?_
      refine Ex_if_ne (t := 93) dX12_byTurns_85 rfl rfl (by omega) (fun c85 => absurd c85 (by omega)) (fun c85 => ?_)
      refine Ex_iload dX12_byTurns_88 rfl rfl ?_
      refine Ex_goto (t := 94) dX12_byTurns_90 rfl ?_
      refine Ex_iret dX12_byTurns_94 rfl rfl ?_
      exact ⟨rfl, y1, y2⟩
    · have ea : byA K F n X held w 0 = held := by unfold byA; rw [if_neg hw0]; rfl
      rw [ea]
      refine Ex_iload dX12_byTurns_43 rfl rfl ?_
      refine Ex_iload_n dX12_byTurns_45 rfl rfl ?_
      refine Ex_icmp_ge (t := 71) dX12_byTurns_46 rfl rfl (by omega) (fun c46 => ?_) (fun c46 => absurd c46 (by omega))
      refine Ex_aload_n dX12_byTurns_71 rfl rfl ?_
      refine Ex_inv 2 dX12_byTurns_72 rfl rfl (Or.inl rfl) rfl rfl rfl rfl (ma0 M) rfl rfl rfl (Ex_post (x12_swimBits M hn hn6 hgX hK) ?_)
      rintro _ _ ⟨rfl, e0⟩
      obtain rfl := Eq.symm e0
      rw [show bt (swB X.2.2.2.1) 0 n = (((bt (swB X.2.2.2.1) 0 n).toNat : Nat) : Int) by omega]
      refine Ex_stat 0 dX12_byTurns_75 rfl rfl (Or.inl rfl) rfl rfl rfl rfl rfl rfl (Ex_post (x12_onesOf (by omega)) ?_)
      rintro _ _ ⟨rfl, e0⟩
      obtain rfl := Eq.symm e0
      refine Ex_istore (L2 := [_, _, _, _, _]) dX12_byTurns_78 rfl rfl rfl ?_
      refine Ex_aload_n dX12_byTurns_80 rfl rfl ?_
      refine Ex_inv 2 dX12_byTurns_81 rfl rfl (Or.inl rfl) rfl rfl rfl rfl (ma0 M) rfl rfl rfl (Ex_post (x12_closeI M h23 hσ hpk hB) ?_)
      rintro _ h9 ⟨rfl, y1, y2⟩
      refine Ex_iload_n dX12_byTurns_84 rfl rfl ?_
      refine Ex_if_ne (t := 93) dX12_byTurns_85 rfl rfl (by omega) (fun c85 => ?_) (fun c85 => absurd c85 (by omega))
      refine Ex_iload_n dX12_byTurns_93 rfl rfl ?_
      refine Ex_iret dX12_byTurns_94 rfl rfl ?_
      exact ⟨rfl, y1, y2⟩
  | succ k ih =>
    intro i held X g ρ kp h  hk hi0 M hn h6 h33 h23 hσ hpk hgX htu
    have htw := tw_v (K := K) (F := F) (n := n) (X := X)
    have g8 := tst_r (K := K) (F := F) hgX (fun i hi => (hK i hi).2)
    have t8 := tst_tu (K := K) (F := F) htu
    have eb : byA K F n X held w (k + 1) = byA K F n (tst K F n X) (if tw K F n X = 0 then held + 1 else held) w k := rfl
    rw [eb]
    rcases htw with q | q | q
    · rw [q, if_neg (by decide)]
      refine Ex_iload dX12_byTurns_43 rfl rfl ?_
      refine Ex_iload_n dX12_byTurns_45 rfl rfl ?_
      refine Ex_icmp_ge (t := 71) dX12_byTurns_46 rfl rfl (by omega) (fun c46 => absurd c46 (by omega)) (fun c46 => ?_)
      refine Ex_iload_n dX12_byTurns_49 rfl rfl ?_
      refine Ex_aload_n dX12_byTurns_50 rfl rfl ?_
      refine Ex_inv 2 dX12_byTurns_51 rfl rfl (Or.inl rfl) rfl rfl rfl rfl (ma0 M) rfl rfl rfl (Ex_post (x12_nextTurn M hn hn6 hgX hK hB h6 h33 htu) ?_)
      rintro _ h1_ ⟨rfl, ⟨g9_, M1_, t6, t33, e9⟩, f1_⟩
      rw [q]
      rw [show nt (-4) = -4 from rfl]
      refine Ex_iconst dX12_byTurns_54 rfl ?_
      refine Ex_icmp_ne (t := 62) dX12_byTurns_55 rfl rfl (by omega) (fun c55 => ?_) (fun c55 => absurd c55 (by omega))
      refine Ex_iconst dX12_byTurns_62 rfl ?_
      refine Ex_iadd dX12_byTurns_63 rfl ?_
      refine Ex_istore_n (L2 := [_, _, _, _, _]) dX12_byTurns_64 rfl rfl rfl ?_
      refine Ex_iinc (L2 := [_, _, _, _, _]) dX12_byTurns_65 rfl rfl rfl ?_
      refine Ex_goto (t := 43) dX12_byTurns_68 rfl ?_
      refine Ex_post (ih (i + 1) (held + 0) _ _ _ _ h1_ (by omega) (by omega) M1_ (by rw [e9 _ (by decide) (by decide)]; exact hn) t6 t33 (by rw [e9 _ (by decide) (by decide)]; exact h23) hσ hpk g8 t8) ?_
      rintro r1 h1 ⟨rfl, y1, y2⟩
      exact ⟨by rw [Int.add_zero], y1, f1_.trans y2⟩
    · rw [q, if_pos rfl]
      refine Ex_iload dX12_byTurns_43 rfl rfl ?_
      refine Ex_iload_n dX12_byTurns_45 rfl rfl ?_
      refine Ex_icmp_ge (t := 71) dX12_byTurns_46 rfl rfl (by omega) (fun c46 => absurd c46 (by omega)) (fun c46 => ?_)
      refine Ex_iload_n dX12_byTurns_49 rfl rfl ?_
      refine Ex_aload_n dX12_byTurns_50 rfl rfl ?_
      refine Ex_inv 2 dX12_byTurns_51 rfl rfl (Or.inl rfl) rfl rfl rfl rfl (ma0 M) rfl rfl rfl (Ex_post (x12_nextTurn M hn hn6 hgX hK hB h6 h33 htu) ?_)
      rintro _ h1_ ⟨rfl, ⟨g9_, M1_, t6, t33, e9⟩, f1_⟩
      rw [q]
      rw [show nt 0 = 1 from rfl]
      refine Ex_iconst dX12_byTurns_54 rfl ?_
      refine Ex_icmp_ne (t := 62) dX12_byTurns_55 rfl rfl (by omega) (fun c55 => absurd c55 (by omega)) (fun c55 => ?_)
      refine Ex_iconst dX12_byTurns_58 rfl ?_
      refine Ex_goto (t := 63) dX12_byTurns_59 rfl ?_
      refine Ex_iadd dX12_byTurns_63 rfl ?_
      refine Ex_istore_n (L2 := [_, _, _, _, _]) dX12_byTurns_64 rfl rfl rfl ?_
      refine Ex_iinc (L2 := [_, _, _, _, _]) dX12_byTurns_65 rfl rfl rfl ?_
      refine Ex_goto (t := 43) dX12_byTurns_68 rfl ?_
      refine Ex_post (ih (i + 1) (held + 1) _ _ _ _ h1_ (by omega) (by omega) M1_ (by rw [e9 _ (by decide) (by decide)]; exact hn) t6 t33 (by rw [e9 _ (by decide) (by decide)]; exact h23) hσ hpk g8 t8) ?_
      rintro r1 h1 ⟨rfl, y1, y2⟩
      exact ⟨rfl, y1, f1_.trans y2⟩
    · rw [q, if_neg (by decide)]
      refine Ex_iload dX12_byTurns_43 rfl rfl ?_
      refine Ex_iload_n dX12_byTurns_45 rfl rfl ?_
      refine Ex_icmp_ge (t := 71) dX12_byTurns_46 rfl rfl (by omega) (fun c46 => absurd c46 (by omega)) (fun c46 => ?_)
      refine Ex_iload_n dX12_byTurns_49 rfl rfl ?_
      refine Ex_aload_n dX12_byTurns_50 rfl rfl ?_
      refine Ex_inv 2 dX12_byTurns_51 rfl rfl (Or.inl rfl) rfl rfl rfl rfl (ma0 M) rfl rfl rfl (Ex_post (x12_nextTurn M hn hn6 hgX hK hB h6 h33 htu) ?_)
      rintro _ h1_ ⟨rfl, ⟨g9_, M1_, t6, t33, e9⟩, f1_⟩
      rw [q]
      rw [show nt 2 = 0 from rfl]
      refine Ex_iconst dX12_byTurns_54 rfl ?_
      refine Ex_icmp_ne (t := 62) dX12_byTurns_55 rfl rfl (by omega) (fun c55 => ?_) (fun c55 => absurd c55 (by omega))
      refine Ex_iconst dX12_byTurns_62 rfl ?_
      refine Ex_iadd dX12_byTurns_63 rfl ?_
      refine Ex_istore_n (L2 := [_, _, _, _, _]) dX12_byTurns_64 rfl rfl rfl ?_
      refine Ex_iinc (L2 := [_, _, _, _, _]) dX12_byTurns_65 rfl rfl rfl ?_
      refine Ex_goto (t := 43) dX12_byTurns_68 rfl ?_
      refine Ex_post (ih (i + 1) (held + 0) _ _ _ _ h1_ (by omega) (by omega) M1_ (by rw [e9 _ (by decide) (by decide)]; exact hn) t6 t33 (by rw [e9 _ (by decide) (by decide)]; exact h23) hσ hpk g8 t8) ?_
      rintro r1 h1 ⟨rfl, y1, y2⟩
      exact ⟨by rw [Int.add_zero], y1, f1_.trans y2⟩
theorem x12_byTurns {E : am_E} {d : Nat} {h : Hp} {m n : Nat} {mm hi : Int} {K F T S C : Nat → Int} {σ : Nat → Nat → Int} {l w : Int}  (I : MI h m (n, mm, K, F, T, S, C) hi σ) (hn6 : n ≤ 6) (hg : Rng n T S C) (hK : ∀ i, i < n → (0 ≤ K i ∧ K i ≤ 7) ∧ (0 ≤ F i ∧ F i ≤ 9)) (hB : E.2 ≤ m) (hl : (-2147483648 ≤ l ∧ l ≤ 2147483647)) (hw : (-2147483648 ≤ w ∧ w ≤ 2147483647))  : Ex E (d + 6) mX12_byTurns 0 [.ref m, .int (i32 l), .int (i32 w), .retAddr 0, .retAddr 0] [] h (fun r1 h1 => r1 = some (.int (i32 (an_byTurns n mm K F T S C l w))) ∧ MI h1 m (n, mm, K, F, T, S, C) hi σ ∧ Fr h h1 m (m + 23)) := by
  obtain ⟨g, ρ, kp, M, hn, h6, h23, hσ⟩ := I
  have M : MAt h m g K F T S C ρ kp := M
  have hn : g 0 = (n : Int) := hn
  have h6 : g 6 = mm := h6
  by_cases q : (0 ≤ l ∧ l ≤ 99) ∧ (0 ≤ w ∧ w ≤ 1)
  · have ea : an_byTurns n mm K F T S C l w = byA K F n (mm, 0, T, S, C) 0 w l.toNat := by unfold an_byTurns; exact if_pos q
    rw [ea]
    refine Ex_aload_n dX12_byTurns_0 rfl rfl ?_
    refine Ex_iconst dX12_byTurns_1 rfl ?_
    refine Ex_put12 (k0 := 13) (v := 0) dX12_byTurns_2 rfl (ma0 M) rfl rfl rfl rfl rfl (by omega) rfl ?_
    refine mg0 M ?_
    intro h1_ M1_ f1_
    refine Ex_iload_n dX12_byTurns_5 rfl rfl ?_
    refine Ex_i2l dX12_byTurns_6 rfl (by omega) ?_
    refine Ex_lconst (z := 0) dX12_byTurns_7 rfl (by decide) ?_
    refine Ex_ldc2 (z := 99) dX12_byTurns_8 rfl rfl ?_
    refine Ex_stat 0 dX12_byTurns_11 rfl rfl (Or.inl rfl) rfl rfl rfl rfl rfl rfl (Ex_post (x12_in (by omega) (by omega) (by omega)) ?_)
    rintro _ _ ⟨rfl, e0⟩
    obtain rfl := Eq.symm e0
    refine Ex_if_eq (t := 27) dX12_byTurns_14 rfl rfl (by omega) (fun c14 => absurd c14 (by omega)) (fun c14 => ?_)
    refine Ex_iload_n dX12_byTurns_17 rfl rfl ?_
    refine Ex_i2l dX12_byTurns_18 rfl (by omega) ?_
    refine Ex_lconst (z := 0) dX12_byTurns_19 rfl (by decide) ?_
    refine Ex_lconst (z := 1) dX12_byTurns_20 rfl (by decide) ?_
    refine Ex_stat 0 dX12_byTurns_21 rfl rfl (Or.inl rfl) rfl rfl rfl rfl rfl rfl (Ex_post (x12_in (by omega) (by omega) (by omega)) ?_)
    rintro _ _ ⟨rfl, e0⟩
    obtain rfl := Eq.symm e0
    refine Ex_if_ne (t := 29) dX12_byTurns_24 rfl rfl (by omega) (fun c24 => ?_) (fun c24 => absurd c24 (by omega))
    refine Ex_iconst dX12_byTurns_29 rfl ?_
    refine Ex_istore_n (L2 := [_, _, _, _, _]) dX12_byTurns_30 rfl rfl rfl ?_
    refine Ex_aload_n dX12_byTurns_31 rfl rfl ?_
    refine Ex_iconst dX12_byTurns_32 rfl ?_
    refine Ex_put12 (k0 := 33) (v := 0) dX12_byTurns_33 rfl (ma0 M1_) rfl rfl rfl rfl rfl (by omega) rfl ?_
    refine mg0 M1_ ?_
    intro h2_ M2_ f2_
    refine Ex_aload_n dX12_byTurns_36 rfl rfl ?_
    refine Ex_inv 2 dX12_byTurns_37 rfl rfl (Or.inl rfl) rfl rfl rfl rfl (ma0 M2_) rfl rfl rfl (Ex_post (x12_open M2_ hn h6 hB) ?_)
    rintro _ h3_ ⟨rfl, ⟨g2_, fo_, M3_, hpk, e2⟩, f3_⟩
    refine Ex_iconst dX12_byTurns_40 rfl ?_
    refine Ex_istore (L2 := [_, _, _, _, _]) dX12_byTurns_41 rfl rfl rfl ?_
    have hn2 : g2_ 0 = (n : Int) := by rw [e2 _ (by decide) (by decide)]; exact hn
    have h62 : g2_ 6 = mm := by rw [e2 _ (by decide) (by decide)]; exact h6
    have h232 : g2_ 23 = hi := by rw [e2 _ (by decide) (by decide)]; exact h23
    have hσ2 : ∀ j, (6 ≤ j ∧ j ≤ 11) ∨ j = 16 → fuR ρ 15 fo_ j = σ j := fun j hj => by rw [fuR_ne (by omega)]; exact hσ j hj
    have hpk2 : ∀ i, i < 32 → fuR ρ 15 fo_ 15 i = pk (n, mm, K, F, T, S, C) i := fun i hi => by rw [fuR_at]; exact hpk i hi
    refine Ex_post (x12_byTurns_l hn6 hK hB q.1 q.2 l.toNat 0 0 (mm, 0, T, S, C) _ _ _ h3_ (by omega) (by omega) M3_ hn2 h62 (by rw [e2 _ (by decide) (by decide)]; rfl) h232 hσ2 hpk2 hg (Nat.zero_le _)) ?_
    rintro r1 h1 ⟨rfl, y1, y2⟩
    exact ⟨rfl, y1, (f1_.trans (f2_.trans f3_)).trans y2⟩
  · refine Ex_aload_n dX12_byTurns_0 rfl rfl ?_
    refine Ex_iconst dX12_byTurns_1 rfl ?_
    refine Ex_put12 (k0 := 13) (v := 0) dX12_byTurns_2 rfl (ma0 M) rfl rfl rfl rfl rfl (by omega) rfl ?_
    refine mg0 M ?_
    intro h1_ M1_ f1_
    refine Ex_iload_n dX12_byTurns_5 rfl rfl ?_
    refine Ex_i2l dX12_byTurns_6 rfl (by omega) ?_
    refine Ex_lconst (z := 0) dX12_byTurns_7 rfl (by decide) ?_
    refine Ex_ldc2 (z := 99) dX12_byTurns_8 rfl rfl ?_
    refine Ex_stat 0 dX12_byTurns_11 rfl rfl (Or.inl rfl) rfl rfl rfl rfl rfl rfl (Ex_post (x12_in (by omega) (by omega) (by omega)) ?_)
    rintro _ _ ⟨rfl, e0⟩
    obtain rfl := Eq.symm e0
    refine Ex_if_eq (t := 27) dX12_byTurns_14 rfl rfl (by omega) (fun c14 => ?_) (fun c14 => ?_)
    · refine Ex_iconst dX12_byTurns_27 rfl ?_
      refine Ex_iret dX12_byTurns_28 rfl rfl ?_
      exact ⟨ri (by unfold an_byTurns; rw [if_neg q]), ⟨_, _, _, M1_, hn, h6, h23, hσ⟩, f1_⟩
    · refine Ex_iload_n dX12_byTurns_17 rfl rfl ?_
      refine Ex_i2l dX12_byTurns_18 rfl (by omega) ?_
      refine Ex_lconst (z := 0) dX12_byTurns_19 rfl (by decide) ?_
      refine Ex_lconst (z := 1) dX12_byTurns_20 rfl (by decide) ?_
      refine Ex_stat 0 dX12_byTurns_21 rfl rfl (Or.inl rfl) rfl rfl rfl rfl rfl rfl (Ex_post (x12_in (by omega) (by omega) (by omega)) ?_)
      rintro _ _ ⟨rfl, e0⟩
      obtain rfl := Eq.symm e0
      refine Ex_if_ne (t := 29) dX12_byTurns_24 rfl rfl (by omega) (fun c24 => ?_) (fun c24 => ?_)
      · exfalso; omega
      · refine Ex_iconst dX12_byTurns_27 rfl ?_
        refine Ex_iret dX12_byTurns_28 rfl rfl ?_
        exact ⟨ri (by unfold an_byTurns; rw [if_neg q]), ⟨_, _, _, M1_, hn, h6, h23, hσ⟩, f1_⟩
