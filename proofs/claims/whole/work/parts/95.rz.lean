/-! the reference: digits read (by program: wip/whole/spec_rz.py) -/
/-- k digits from a place: what is wrong (0, 1), the place then, the number -/
def rdg (xs : List Int) : Nat → Int → Nat → Int → Int × Nat × Int
  | 0, w, p, v => (w, p, v)
  | k + 1, w, p, v => if w = 0 ∧ (48 ≤ hre xs p ∧ hre xs p ≤ 57) then rdg xs k 0 (p + 1) (10 * v + hre xs p - 48) else rdg xs k 1 p 0
theorem x12_rdg_l {E : am_E} {d m a : Nat} {nn : Int} {xs : List Int} {K F T S C : Nat → Int} {ρ : Nat → Nat → Int} {kp : Value} (hB : E.2 ≤ m) (ha : a < 8) (hlen : ρ 10 a = (xs.length : Int)) (hl2 : xs.length ≤ 100) (hx : ∀ i, i < xs.length → ρ 11 (100 * a + i) = xs.getD i 0 ∧ (-2147483648 ≤ xs.getD i 0 ∧ xs.getD i 0 ≤ 2147483647)) (hnn : 0 ≤ nn ∧ nn ≤ 9) : ∀ (k : Nat) (j w v : Int) (p : Nat) (g : Nat → Int) (h : Hp), j + k = nn → 0 ≤ j → p + k ≤ 1000 → MAt h m g K F T S C ρ kp → g 14 = (a : Int) → g 15 = (p : Int) → g 16 = w → (w = 0 ∨ w = 1) → Ex E (d + 1) mX12_readDigits 4 [.ref m, .int (i32 nn), .int (i32 v), .int (i32 j)] [] h (fun r1 h1 => r1 = some (.int (i32 (rdg xs k w p v).2.2)) ∧ (∃ g2, MAt h1 m g2 K F T S C ρ kp ∧ g2 16 = (rdg xs k w p v).1 ∧ g2 15 = (((rdg xs k w p v).2.1 : Nat) : Int) ∧ ∀ j, j ≠ 15 → j ≠ 16 → g2 j = g j) ∧ Fr h h1 m (m + 23)) := by
  intro k
  induction k with
  | zero =>
    intro j w v p g h hk hj hp M h14 h15 h16 hw
    refine Ex_iload_n dX12_readDigits_4 rfl rfl ?_
    refine Ex_iload_n dX12_readDigits_5 rfl rfl ?_
    refine Ex_icmp_ge (t := 93) dX12_readDigits_6 rfl rfl (by omega) (fun c6 => ?_) (fun c6 => absurd c6 (by omega))
    refine Ex_iload_n dX12_readDigits_93 rfl rfl ?_
    refine Ex_iret dX12_readDigits_94 rfl rfl ?_
    exact ⟨rfl, ⟨g, M, h16, h15, fun _ _ _ => rfl⟩, Fr.rf _ _ _⟩
  | succ k ih =>
    intro j w v p g h hk hj hp M h14 h15 h16 hw
    have hh : -2147483648 ≤ hre xs p ∧ hre xs p ≤ 2147483647 := by
      unfold hre
      by_cases c : p < xs.length
      · rw [if_pos c]; exact (hx p c).2
      · rw [if_neg c]; omega
    have ea : rdg xs (k + 1) w p v = if w = 0 ∧ (48 ≤ hre xs p ∧ hre xs p ≤ 57) then rdg xs k 0 (p + 1) (10 * v + hre xs p - 48) else rdg xs k 1 p 0 := rfl
    rw [ea]
    by_cases q : w = 0
    · by_cases q2 : 48 ≤ hre xs p ∧ hre xs p ≤ 57
      · rw [if_pos ⟨q, q2⟩]
        refine Ex_iload_n dX12_readDigits_4 rfl rfl ?_
        refine Ex_iload_n dX12_readDigits_5 rfl rfl ?_
        refine Ex_icmp_ge (t := 93) dX12_readDigits_6 rfl rfl (by omega) (fun c6 => absurd c6 (by omega)) (fun c6 => ?_)
        refine Ex_aload_n dX12_readDigits_9 rfl rfl ?_
        refine Ex_aload_n dX12_readDigits_10 rfl rfl ?_
        refine Ex_getf dX12_readDigits_11 rfl (ma0 M) rfl rfl rfl ?_
        rw [h16]
        refine Ex_if_ne (t := 34) dX12_readDigits_14 rfl rfl (by omega) (fun c14 => absurd c14 (by omega)) (fun c14 => ?_)
        refine Ex_aload_n dX12_readDigits_17 rfl rfl ?_
        refine Ex_inv 2 dX12_readDigits_18 rfl rfl (Or.inl rfl) rfl rfl rfl rfl (ma0 M) rfl rfl rfl (Ex_post (x12_here (i := p) M ha h14 hlen hl2 hx h15 (by omega)) ?_)
        rintro _ _ ⟨rfl, e0⟩
        obtain rfl := Eq.symm e0
        refine Ex_i2l dX12_readDigits_21 rfl (by omega) ?_
        refine Ex_ldc2 (z := 48) dX12_readDigits_22 rfl rfl ?_
        refine Ex_ldc2 (z := 57) dX12_readDigits_25 rfl rfl ?_
        refine Ex_stat 0 dX12_readDigits_28 rfl rfl (Or.inl rfl) rfl rfl rfl rfl rfl rfl (Ex_post (x12_in (by omega) (by omega) (by omega)) ?_)
        rintro _ _ ⟨rfl, e0⟩
        obtain rfl := Eq.symm e0
        refine Ex_if_ne (t := 38) dX12_readDigits_31 rfl rfl (by omega) (fun c31 => ?_) (fun c31 => absurd c31 (by omega))
        refine Ex_iconst dX12_readDigits_38 rfl ?_
        refine Ex_put12 (k0 := 16) (v := 0) dX12_readDigits_39 rfl (ma0 M) rfl rfl rfl rfl rfl (by omega) rfl ?_
        refine mg0 M ?_
        intro h1_ M1_ f1_
        refine Ex_aload_n dX12_readDigits_42 rfl rfl ?_
        refine Ex_getf dX12_readDigits_43 rfl (ma0 M1_) rfl rfl rfl ?_
        rw [show (fu g 16 0) 16 = 0 from rfl]
        refine Ex_if_eq (t := 53) dX12_readDigits_46 rfl rfl (by omega) (fun c46 => ?_) (fun c46 => absurd c46 (by omega))
        refine Ex_bipush dX12_readDigits_53 rfl (by decide) ?_
        refine Ex_iload_n dX12_readDigits_55 rfl rfl ?_
        refine Ex_imul dX12_readDigits_56 rfl ?_
        refine Ex_aload_n dX12_readDigits_57 rfl rfl ?_
        refine Ex_inv 2 dX12_readDigits_58 rfl rfl (Or.inl rfl) rfl rfl rfl rfl (ma0 M1_) rfl rfl rfl (Ex_post (x12_here (i := p) M1_ ha h14 hlen hl2 hx h15 (by omega)) ?_)
        rintro _ _ ⟨rfl, e0⟩
        obtain rfl := Eq.symm e0
        refine Ex_iadd dX12_readDigits_61 rfl ?_
        refine Ex_bipush dX12_readDigits_62 rfl (by decide) ?_
        refine Ex_isub dX12_readDigits_64 rfl ?_
        refine Ex_istore_n (L2 := [_, _, _, _]) dX12_readDigits_65 rfl rfl rfl ?_
        refine Ex_aload_n dX12_readDigits_66 rfl rfl ?_
        refine Ex_dup dX12_readDigits_67 rfl rfl ?_
        refine Ex_getf dX12_readDigits_68 rfl (ma0 M1_) rfl rfl rfl ?_
        rw [show (fu g 16 0) 15 = g 15 from rfl]
        refine Ex_aload_n dX12_readDigits_71 rfl rfl ?_
        refine Ex_getf dX12_readDigits_72 rfl (ma0 M1_) rfl rfl rfl ?_
        rw [show (fu g 16 0) 16 = 0 from rfl]
        refine Ex_if_eq (t := 82) dX12_readDigits_75 rfl rfl (by omega) (fun c75 => ?_) (fun c75 => absurd c75 (by omega))
        refine Ex_iconst dX12_readDigits_82 rfl ?_
        refine Ex_iadd dX12_readDigits_83 rfl ?_
        refine Ex_put12 (k0 := 15) (v := (g 15 + 1)) dX12_readDigits_84 rfl (ma0 M1_) rfl rfl rfl rfl rfl (by omega) rfl ?_
        refine mg0 M1_ ?_
        intro h2_ M2_ f2_
        refine Ex_iinc (L2 := [_, _, _, _]) dX12_readDigits_87 rfl rfl rfl ?_
        refine Ex_goto (t := 4) dX12_readDigits_90 rfl ?_
        refine Ex_post (ih (j + 1) 0 _ (p + 1) _ h2_ (by omega) (by omega) (by omega) M2_ h14 (by show g 15 + 1 = _; omega) rfl (by omega)) ?_
        rintro r1 h1 ⟨rfl, ⟨g2, y1, y2, y3, y4⟩, y5⟩
        refine ⟨rfl, ⟨g2, y1, y2, y3, fun i i1 i2 => ?_⟩, (f1_.trans f2_).trans y5⟩
        rw [y4 i i1 i2, fu_ne i1, fu_ne i2]
      · rw [if_neg (fun z => q2 z.2)]
        refine Ex_iload_n dX12_readDigits_4 rfl rfl ?_
        refine Ex_iload_n dX12_readDigits_5 rfl rfl ?_
        refine Ex_icmp_ge (t := 93) dX12_readDigits_6 rfl rfl (by omega) (fun c6 => absurd c6 (by omega)) (fun c6 => ?_)
        refine Ex_aload_n dX12_readDigits_9 rfl rfl ?_
        refine Ex_aload_n dX12_readDigits_10 rfl rfl ?_
        refine Ex_getf dX12_readDigits_11 rfl (ma0 M) rfl rfl rfl ?_
        rw [h16]
        refine Ex_if_ne (t := 34) dX12_readDigits_14 rfl rfl (by omega) (fun c14 => absurd c14 (by omega)) (fun c14 => ?_)
        refine Ex_aload_n dX12_readDigits_17 rfl rfl ?_
        refine Ex_inv 2 dX12_readDigits_18 rfl rfl (Or.inl rfl) rfl rfl rfl rfl (ma0 M) rfl rfl rfl (Ex_post (x12_here (i := p) M ha h14 hlen hl2 hx h15 (by omega)) ?_)
        rintro _ _ ⟨rfl, e0⟩
        obtain rfl := Eq.symm e0
        refine Ex_i2l dX12_readDigits_21 rfl (by omega) ?_
        refine Ex_ldc2 (z := 48) dX12_readDigits_22 rfl rfl ?_
        refine Ex_ldc2 (z := 57) dX12_readDigits_25 rfl rfl ?_
        refine Ex_stat 0 dX12_readDigits_28 rfl rfl (Or.inl rfl) rfl rfl rfl rfl rfl rfl (Ex_post (x12_in (by omega) (by omega) (by omega)) ?_)
        rintro _ _ ⟨rfl, e0⟩
        obtain rfl := Eq.symm e0
        refine Ex_if_ne (t := 38) dX12_readDigits_31 rfl rfl (by omega) (fun c31 => absurd c31 (by omega)) (fun c31 => ?_)
        refine Ex_iconst dX12_readDigits_34 rfl ?_
        refine Ex_goto (t := 39) dX12_readDigits_35 rfl ?_
        refine Ex_put12 (k0 := 16) (v := 1) dX12_readDigits_39 rfl (ma0 M) rfl rfl rfl rfl rfl (by omega) rfl ?_
        refine mg0 M ?_
        intro h1_ M1_ f1_
        refine Ex_aload_n dX12_readDigits_42 rfl rfl ?_
        refine Ex_getf dX12_readDigits_43 rfl (ma0 M1_) rfl rfl rfl ?_
        rw [show (fu g 16 1) 16 = 1 from rfl]
        refine Ex_if_eq (t := 53) dX12_readDigits_46 rfl rfl (by omega) (fun c46 => absurd c46 (by omega)) (fun c46 => ?_)
        refine Ex_iconst dX12_readDigits_49 rfl ?_
        refine Ex_goto (t := 65) dX12_readDigits_50 rfl ?_
        refine Ex_istore_n (L2 := [_, _, _, _]) dX12_readDigits_65 rfl rfl rfl ?_
        refine Ex_aload_n dX12_readDigits_66 rfl rfl ?_
        refine Ex_dup dX12_readDigits_67 rfl rfl ?_
        refine Ex_getf dX12_readDigits_68 rfl (ma0 M1_) rfl rfl rfl ?_
        rw [show (fu g 16 1) 15 = g 15 from rfl]
        refine Ex_aload_n dX12_readDigits_71 rfl rfl ?_
        refine Ex_getf dX12_readDigits_72 rfl (ma0 M1_) rfl rfl rfl ?_
        rw [show (fu g 16 1) 16 = 1 from rfl]
        refine Ex_if_eq (t := 82) dX12_readDigits_75 rfl rfl (by omega) (fun c75 => absurd c75 (by omega)) (fun c75 => ?_)
        refine Ex_iconst dX12_readDigits_78 rfl ?_
        refine Ex_goto (t := 83) dX12_readDigits_79 rfl ?_
        refine Ex_iadd dX12_readDigits_83 rfl ?_
        refine Ex_put12 (k0 := 15) (v := (g 15 + 0)) dX12_readDigits_84 rfl (ma0 M1_) rfl rfl rfl rfl rfl (by omega) rfl ?_
        refine mg0 M1_ ?_
        intro h2_ M2_ f2_
        refine Ex_iinc (L2 := [_, _, _, _]) dX12_readDigits_87 rfl rfl rfl ?_
        refine Ex_goto (t := 4) dX12_readDigits_90 rfl ?_
        refine Ex_post (ih (j + 1) 1 _ p _ h2_ (by omega) (by omega) (by omega) M2_ h14 (by show g 15 + 0 = _; omega) rfl (by omega)) ?_
        rintro r1 h1 ⟨rfl, ⟨g2, y1, y2, y3, y4⟩, y5⟩
        refine ⟨rfl, ⟨g2, y1, y2, y3, fun i i1 i2 => ?_⟩, (f1_.trans f2_).trans y5⟩
        rw [y4 i i1 i2, fu_ne i1, fu_ne i2]
    · rw [if_neg (fun z => q z.1)]
      refine Ex_iload_n dX12_readDigits_4 rfl rfl ?_
      refine Ex_iload_n dX12_readDigits_5 rfl rfl ?_
      refine Ex_icmp_ge (t := 93) dX12_readDigits_6 rfl rfl (by omega) (fun c6 => absurd c6 (by omega)) (fun c6 => ?_)
      refine Ex_aload_n dX12_readDigits_9 rfl rfl ?_
      refine Ex_aload_n dX12_readDigits_10 rfl rfl ?_
      refine Ex_getf dX12_readDigits_11 rfl (ma0 M) rfl rfl rfl ?_
      rw [h16]
      refine Ex_if_ne (t := 34) dX12_readDigits_14 rfl rfl (by omega) (fun c14 => ?_) (fun c14 => absurd c14 (by omega))
      refine Ex_iconst dX12_readDigits_34 rfl ?_
      refine Ex_goto (t := 39) dX12_readDigits_35 rfl ?_
      refine Ex_put12 (k0 := 16) (v := 1) dX12_readDigits_39 rfl (ma0 M) rfl rfl rfl rfl rfl (by omega) rfl ?_
      refine mg0 M ?_
      intro h1_ M1_ f1_
      refine Ex_aload_n dX12_readDigits_42 rfl rfl ?_
      refine Ex_getf dX12_readDigits_43 rfl (ma0 M1_) rfl rfl rfl ?_
      rw [show (fu g 16 1) 16 = 1 from rfl]
      refine Ex_if_eq (t := 53) dX12_readDigits_46 rfl rfl (by omega) (fun c46 => absurd c46 (by omega)) (fun c46 => ?_)
      refine Ex_iconst dX12_readDigits_49 rfl ?_
      refine Ex_goto (t := 65) dX12_readDigits_50 rfl ?_
      refine Ex_istore_n (L2 := [_, _, _, _]) dX12_readDigits_65 rfl rfl rfl ?_
      refine Ex_aload_n dX12_readDigits_66 rfl rfl ?_
      refine Ex_dup dX12_readDigits_67 rfl rfl ?_
      refine Ex_getf dX12_readDigits_68 rfl (ma0 M1_) rfl rfl rfl ?_
      rw [show (fu g 16 1) 15 = g 15 from rfl]
      refine Ex_aload_n dX12_readDigits_71 rfl rfl ?_
      refine Ex_getf dX12_readDigits_72 rfl (ma0 M1_) rfl rfl rfl ?_
      rw [show (fu g 16 1) 16 = 1 from rfl]
      refine Ex_if_eq (t := 82) dX12_readDigits_75 rfl rfl (by omega) (fun c75 => absurd c75 (by omega)) (fun c75 => ?_)
      refine Ex_iconst dX12_readDigits_78 rfl ?_
      refine Ex_goto (t := 83) dX12_readDigits_79 rfl ?_
      refine Ex_iadd dX12_readDigits_83 rfl ?_
      refine Ex_put12 (k0 := 15) (v := (g 15 + 0)) dX12_readDigits_84 rfl (ma0 M1_) rfl rfl rfl rfl rfl (by omega) rfl ?_
      refine mg0 M1_ ?_
      intro h2_ M2_ f2_
      refine Ex_iinc (L2 := [_, _, _, _]) dX12_readDigits_87 rfl rfl rfl ?_
      refine Ex_goto (t := 4) dX12_readDigits_90 rfl ?_
      refine Ex_post (ih (j + 1) 1 _ p _ h2_ (by omega) (by omega) (by omega) M2_ h14 (by show g 15 + 0 = _; omega) rfl (by omega)) ?_
      rintro r1 h1 ⟨rfl, ⟨g2, y1, y2, y3, y4⟩, y5⟩
      refine ⟨rfl, ⟨g2, y1, y2, y3, fun i i1 i2 => ?_⟩, (f1_.trans f2_).trans y5⟩
      rw [y4 i i1 i2, fu_ne i1, fu_ne i2]
theorem x12_readDigits {E : am_E} {d : Nat} {h : Hp} {m a p k : Nat} {w : Int} {xs : List Int} {g K F T S C : Nat → Int} {ρ : Nat → Nat → Int} {kp : Value}  (M : MAt h m g K F T S C ρ kp) (hB : E.2 ≤ m) (ha : a < 8) (hlen : ρ 10 a = (xs.length : Int)) (hl2 : xs.length ≤ 100) (hx : ∀ i, i < xs.length → ρ 11 (100 * a + i) = xs.getD i 0 ∧ (-2147483648 ≤ xs.getD i 0 ∧ xs.getD i 0 ≤ 2147483647)) (h14 : g 14 = (a : Int)) (h15 : g 15 = (p : Int)) (h16 : g 16 = w) (hw : w = 0 ∨ w = 1) (hk : k ≤ 9) (hp : p + k ≤ 1000)  : Ex E (d + 1) mX12_readDigits 0 [.ref m, .int (i32 (k : Int)), .retAddr 0, .retAddr 0] [] h (fun r1 h1 => r1 = some (.int (i32 (rdg xs k w p 0).2.2)) ∧ (∃ g2, MAt h1 m g2 K F T S C ρ kp ∧ g2 16 = (rdg xs k w p 0).1 ∧ g2 15 = (((rdg xs k w p 0).2.1 : Nat) : Int) ∧ ∀ j, j ≠ 15 → j ≠ 16 → g2 j = g j) ∧ Fr h h1 m (m + 23)) := by
  refine Ex_iconst dX12_readDigits_0 rfl ?_
  refine Ex_istore_n (L2 := [_, _, _, _]) dX12_readDigits_1 rfl rfl rfl ?_
  refine Ex_iconst dX12_readDigits_2 rfl ?_
  refine Ex_istore_n (L2 := [_, _, _, _]) dX12_readDigits_3 rfl rfl rfl ?_
  exact x12_rdg_l hB ha hlen hl2 hx (by omega) k 0 w 0 p g h (by omega) (by omega) hp M h14 h15 h16 hw
theorem rdg_v {xs : List Int} : ∀ (k : Nat) (w : Int) (p : Nat) (v : Int), (w = 0 ∨ w = 1) → ((rdg xs k w p v).1 = 0 ∨ (rdg xs k w p v).1 = 1) ∧ p ≤ (rdg xs k w p v).2.1 ∧ (rdg xs k w p v).2.1 ≤ p + k
  | 0, w, p, v, h => ⟨h, Nat.le_refl _, Nat.le_refl _⟩
  | k + 1, w, p, v, h => by
    simp only [rdg]
    by_cases q : w = 0 ∧ (48 ≤ hre xs p ∧ hre xs p ≤ 57)
    · rw [if_pos q]
      have := rdg_v (xs := xs) k 0 (p + 1) (10 * v + hre xs p - 48) (Or.inl rfl)
      exact ⟨this.1, by omega, by omega⟩
    · rw [if_neg q]
      have := rdg_v (xs := xs) k 1 p 0 (Or.inr rfl)
      exact ⟨this.1, by omega, by omega⟩
