/-! the reference: copy, was (by program: wip/whole/spec_rk.py) -/
theorem cpL_get {xs ys : List Int} {p r l i : Nat} (hp : p + l ≤ xs.length) (hr : r + l ≤ ys.length) : (cpL xs ys p r l).getD i 0 = if r ≤ i ∧ i < r + l then xs.getD (p + (i - r)) 0 else ys.getD i 0 := by
  have e : (cpL xs ys p r l)[i]? = if r ≤ i ∧ i < r + l then xs[p + (i - r)]? else ys[i]? := by
    unfold cpL
    by_cases c1 : i < r
    · rw [List.getElem?_append_left (by rw [List.length_take]; omega), List.getElem?_take_of_lt c1, if_neg (by omega)]
    · rw [List.getElem?_append_right (by rw [List.length_take]; omega), List.length_take, show min r ys.length = r by omega]
      by_cases c2 : i < r + l
      · rw [List.getElem?_append_left (by rw [List.length_take, List.length_drop]; omega), List.getElem?_take_of_lt (by omega), List.getElem?_drop, if_pos ⟨by omega, c2⟩]
      · rw [List.getElem?_append_right (by rw [List.length_take, List.length_drop]; omega), List.length_take, List.length_drop, List.getElem?_drop, if_neg (by omega)]
        congr 1
        omega
  rw [List.getD_eq_getElem?_getD, e]
  split <;> rw [List.getD_eq_getElem?_getD]
theorem lcmp_eq {a b : Int} : lcmpI a b = 0 ↔ a = b := by
  unfold lcmpI
  (repeat' split) <;> omega
theorem x12_copy_1 {E : am_E} {d : Nat} {h : Hp} {m n : Nat} {mm hi : Int} {K F T S C : Nat → Int} {σ : Nat → Nat → Int} {hw ck cf rs : Nat → Int} {rx : Nat → List Int} {a p b r l : Int}  (I : MI h m (n, mm, K, F, T, S, C) hi σ) (hn6 : n ≤ 6) (hg : Rng n T S C) (hK : ∀ i, i < n → (0 ≤ K i ∧ K i ≤ 7) ∧ (0 ≤ F i ∧ F i ≤ 9)) (hB : E.2 ≤ m) (V : Sv σ hw ck cf rs rx) (ha : (-2147483648 ≤ a ∧ a ≤ 2147483647)) (hp : (-2147483648 ≤ p ∧ p ≤ 2147483647)) (hb : (-2147483648 ≤ b ∧ b ≤ 2147483647)) (hr : (-2147483648 ≤ r ∧ r ≤ 2147483647)) (hl : (-2147483648 ≤ l ∧ l ≤ 2147483647)) (q : ¬ ((0 ≤ a ∧ a ≤ 7) ∧ (0 ≤ b ∧ b ≤ 7)))  : Ex E (d + 1) mX12_copy 0 [.ref m, .int (i32 a), .int (i32 p), .int (i32 b), .int (i32 r), .int (i32 l), .retAddr 0] [] h (fun r1 h1 => r1 = some (.int (i32 (-1))) ∧ (∃ σ2, MI h1 m (n, mm, K, F, T, S, C) hi σ2 ∧ Sv σ2 hw ck cf rs rx ∧ σ2 16 = σ 16) ∧ Fr h h1 m (m + 23)) := by
  obtain ⟨g, ρ, kp, M, hn, h6, h23, hσ⟩ := I
  have M : MAt h m g K F T S C ρ kp := M
  have hn : g 0 = (n : Int) := hn
  have h6 : g 6 = mm := h6
  have V : Sv ρ hw ck cf rs rx := V.cg hσ
  have h16 : ρ 16 = σ 16 := hσ 16 (Or.inr rfl)
  clear hσ
  have hσ : ∀ j, (6 ≤ j ∧ j ≤ 11) ∨ j = 16 → ρ j = ρ j := fun _ _ => rfl
  refine Ex_aload_n dX12_copy_0 rfl rfl ?_
  refine Ex_iconst dX12_copy_1 rfl ?_
  refine Ex_put12 (k0 := 13) (v := 0) dX12_copy_2 rfl (ma0 M) rfl rfl rfl rfl rfl (by omega) rfl ?_
  refine mg0 M ?_
  intro h1_ M1_ f1_
  refine Ex_iload_n dX12_copy_5 rfl rfl ?_
  refine Ex_i2l dX12_copy_6 rfl (by omega) ?_
  refine Ex_lconst (z := 0) dX12_copy_7 rfl (by decide) ?_
  refine Ex_ldc2 (z := 7) dX12_copy_8 rfl rfl ?_
  refine Ex_stat 0 dX12_copy_11 rfl rfl (Or.inl rfl) rfl rfl rfl rfl rfl rfl (Ex_post (x12_in (by omega) (by omega) (by omega)) ?_)
  rintro _ _ ⟨rfl, e0⟩
  obtain rfl := Eq.symm e0
  refine Ex_if_eq (t := 29) dX12_copy_14 rfl rfl (by omega) (fun c14 => ?_) (fun c14 => ?_)
  · refine Ex_iconst dX12_copy_29 rfl ?_
    refine Ex_iret dX12_copy_30 rfl rfl ?_
    exact ⟨rfl, ⟨_, ⟨_, _, _, M1_, hn, h6, h23, fun _ _ => rfl⟩, V, h16⟩, f1_⟩
  · refine Ex_iload_n dX12_copy_17 rfl rfl ?_
    refine Ex_i2l dX12_copy_18 rfl (by omega) ?_
    refine Ex_lconst (z := 0) dX12_copy_19 rfl (by decide) ?_
    refine Ex_ldc2 (z := 7) dX12_copy_20 rfl rfl ?_
    refine Ex_stat 0 dX12_copy_23 rfl rfl (Or.inl rfl) rfl rfl rfl rfl rfl rfl (Ex_post (x12_in (by omega) (by omega) (by omega)) ?_)
    rintro _ _ ⟨rfl, e0⟩
    obtain rfl := Eq.symm e0
    refine Ex_if_ne (t := 31) dX12_copy_26 rfl rfl (by omega) (fun c26 => ?_) (fun c26 => ?_)
    · exfalso; omega
    · refine Ex_iconst dX12_copy_29 rfl ?_
      refine Ex_iret dX12_copy_30 rfl rfl ?_
      exact ⟨rfl, ⟨_, ⟨_, _, _, M1_, hn, h6, h23, fun _ _ => rfl⟩, V, h16⟩, f1_⟩
theorem x12_copy_11 {E : am_E} {d : Nat} {h : Hp} {m n : Nat} {mm hi : Int} {K F T S C : Nat → Int} {σ : Nat → Nat → Int} {hw ck cf rs : Nat → Int} {rx : Nat → List Int} {a p b r l : Int}  (I : MI h m (n, mm, K, F, T, S, C) hi σ) (hn6 : n ≤ 6) (hg : Rng n T S C) (hK : ∀ i, i < n → (0 ≤ K i ∧ K i ≤ 7) ∧ (0 ≤ F i ∧ F i ≤ 9)) (hB : E.2 ≤ m) (V : Sv σ hw ck cf rs rx) (ha : (-2147483648 ≤ a ∧ a ≤ 2147483647)) (hp : (-2147483648 ≤ p ∧ p ≤ 2147483647)) (hb : (-2147483648 ≤ b ∧ b ≤ 2147483647)) (hr : (-2147483648 ≤ r ∧ r ≤ 2147483647)) (hl : (-2147483648 ≤ l ∧ l ≤ 2147483647)) (q : (0 ≤ a ∧ a ≤ 7) ∧ (0 ≤ b ∧ b ≤ 7)) (q1 : hw a.toNat = 0 ∨ hw b.toNat = 0)  : Ex E (d + 1) mX12_copy 0 [.ref m, .int (i32 a), .int (i32 p), .int (i32 b), .int (i32 r), .int (i32 l), .retAddr 0] [] h (fun r1 h1 => r1 = some (.int (i32 (-11))) ∧ (∃ σ2, MI h1 m (n, mm, K, F, T, S, C) hi σ2 ∧ Sv σ2 hw ck cf rs rx ∧ σ2 16 = σ 16) ∧ Fr h h1 m (m + 23)) := by
  obtain ⟨g, ρ, kp, M, hn, h6, h23, hσ⟩ := I
  have M : MAt h m g K F T S C ρ kp := M
  have hn : g 0 = (n : Int) := hn
  have h6 : g 6 = mm := h6
  have V : Sv ρ hw ck cf rs rx := V.cg hσ
  have h16 : ρ 16 = σ 16 := hσ 16 (Or.inr rfl)
  clear hσ
  have hσ : ∀ j, (6 ≤ j ∧ j ≤ 11) ∨ j = 16 → ρ j = ρ j := fun _ _ => rfl
  obtain ⟨a, rfl⟩ := Int.eq_ofNat_of_zero_le q.1.1
  obtain ⟨b, rfl⟩ := Int.eq_ofNat_of_zero_le q.2.1
  simp only [Int.toNat_natCast] at *
  obtain ⟨v6, v3, vk, vr⟩ := V a (by omega)
  obtain ⟨u6, u3, uk, ur⟩ := V b (by omega)
  refine Ex_aload_n dX12_copy_0 rfl rfl ?_
  refine Ex_iconst dX12_copy_1 rfl ?_
  refine Ex_put12 (k0 := 13) (v := 0) dX12_copy_2 rfl (ma0 M) rfl rfl rfl rfl rfl (by omega) rfl ?_
  refine mg0 M ?_
  intro h1_ M1_ f1_
  refine Ex_iload_n dX12_copy_5 rfl rfl ?_
  refine Ex_i2l dX12_copy_6 rfl (by omega) ?_
  refine Ex_lconst (z := 0) dX12_copy_7 rfl (by decide) ?_
  refine Ex_ldc2 (z := 7) dX12_copy_8 rfl rfl ?_
  refine Ex_stat 0 dX12_copy_11 rfl rfl (Or.inl rfl) rfl rfl rfl rfl rfl rfl (Ex_post (x12_in (by omega) (by omega) (by omega)) ?_)
  rintro _ _ ⟨rfl, e0⟩
  obtain rfl := Eq.symm e0
  refine Ex_if_eq (t := 29) dX12_copy_14 rfl rfl (by omega) (fun c14 => absurd c14 (by omega)) (fun c14 => ?_)
  refine Ex_iload_n dX12_copy_17 rfl rfl ?_
  refine Ex_i2l dX12_copy_18 rfl (by omega) ?_
  refine Ex_lconst (z := 0) dX12_copy_19 rfl (by decide) ?_
  refine Ex_ldc2 (z := 7) dX12_copy_20 rfl rfl ?_
  refine Ex_stat 0 dX12_copy_23 rfl rfl (Or.inl rfl) rfl rfl rfl rfl rfl rfl (Ex_post (x12_in (by omega) (by omega) (by omega)) ?_)
  rintro _ _ ⟨rfl, e0⟩
  obtain rfl := Eq.symm e0
  refine Ex_if_ne (t := 31) dX12_copy_26 rfl rfl (by omega) (fun c26 => ?_) (fun c26 => absurd c26 (by omega))
  refine Ex_aload_n dX12_copy_31 rfl rfl ?_
  refine Ex_getf dX12_copy_32 rfl (ma0 M1_) rfl rfl rfl ?_
  refine Ex_iload_n dX12_copy_35 rfl rfl ?_
  refine Ex_iald12 (c := a) dX12_copy_36 rfl (ma6 M1_) rfl (by omega) ?_
  rw [v6]
  refine Ex_if_eq (t := 49) dX12_copy_37 rfl rfl (by omega) (fun c37 => ?_) (fun c37 => ?_)
  · refine Ex_bipush dX12_copy_49 rfl (by decide) ?_
    refine Ex_iret dX12_copy_51 rfl rfl ?_
    exact ⟨rfl, ⟨_, ⟨_, _, _, M1_, hn, h6, h23, fun _ _ => rfl⟩, V, h16⟩, f1_⟩
  · refine Ex_aload_n dX12_copy_40 rfl rfl ?_
    refine Ex_getf dX12_copy_41 rfl (ma0 M1_) rfl rfl rfl ?_
    refine Ex_iload_n dX12_copy_44 rfl rfl ?_
    refine Ex_iald12 (c := b) dX12_copy_45 rfl (ma6 M1_) rfl (by omega) ?_
    rw [u6]
    refine Ex_if_ne (t := 52) dX12_copy_46 rfl rfl (by omega) (fun c46 => ?_) (fun c46 => ?_)
    · exfalso; omega
    · refine Ex_bipush dX12_copy_49 rfl (by decide) ?_
      refine Ex_iret dX12_copy_51 rfl rfl ?_
      exact ⟨rfl, ⟨_, ⟨_, _, _, M1_, hn, h6, h23, fun _ _ => rfl⟩, V, h16⟩, f1_⟩
theorem x12_copy_12 {E : am_E} {d : Nat} {h : Hp} {m n : Nat} {mm hi : Int} {K F T S C : Nat → Int} {σ : Nat → Nat → Int} {hw ck cf rs : Nat → Int} {rx : Nat → List Int} {a p b r l : Int}  (I : MI h m (n, mm, K, F, T, S, C) hi σ) (hn6 : n ≤ 6) (hg : Rng n T S C) (hK : ∀ i, i < n → (0 ≤ K i ∧ K i ≤ 7) ∧ (0 ≤ F i ∧ F i ≤ 9)) (hB : E.2 ≤ m) (V : Sv σ hw ck cf rs rx) (ha : (-2147483648 ≤ a ∧ a ≤ 2147483647)) (hp : (-2147483648 ≤ p ∧ p ≤ 2147483647)) (hb : (-2147483648 ≤ b ∧ b ≤ 2147483647)) (hr : (-2147483648 ≤ r ∧ r ≤ 2147483647)) (hl : (-2147483648 ≤ l ∧ l ≤ 2147483647)) (q : (0 ≤ a ∧ a ≤ 7) ∧ (0 ≤ b ∧ b ≤ 7)) (q1 : ¬ (hw a.toNat = 0 ∨ hw b.toNat = 0)) (q2 : ¬ (hw a.toNat = 2 ∧ hw b.toNat = 2 ∧ rs a.toNat = rs b.toNat))  : Ex E (d + 1) mX12_copy 0 [.ref m, .int (i32 a), .int (i32 p), .int (i32 b), .int (i32 r), .int (i32 l), .retAddr 0] [] h (fun r1 h1 => r1 = some (.int (i32 (-12))) ∧ (∃ σ2, MI h1 m (n, mm, K, F, T, S, C) hi σ2 ∧ Sv σ2 hw ck cf rs rx ∧ σ2 16 = σ 16) ∧ Fr h h1 m (m + 23)) := by
  obtain ⟨g, ρ, kp, M, hn, h6, h23, hσ⟩ := I
  have M : MAt h m g K F T S C ρ kp := M
  have hn : g 0 = (n : Int) := hn
  have h6 : g 6 = mm := h6
  have V : Sv ρ hw ck cf rs rx := V.cg hσ
  have h16 : ρ 16 = σ 16 := hσ 16 (Or.inr rfl)
  clear hσ
  have hσ : ∀ j, (6 ≤ j ∧ j ≤ 11) ∨ j = 16 → ρ j = ρ j := fun _ _ => rfl
  obtain ⟨a, rfl⟩ := Int.eq_ofNat_of_zero_le q.1.1
  obtain ⟨b, rfl⟩ := Int.eq_ofNat_of_zero_le q.2.1
  simp only [Int.toNat_natCast] at *
  obtain ⟨v6, v3, vk, vr⟩ := V a (by omega)
  obtain ⟨u6, u3, uk, ur⟩ := V b (by omega)
  refine Ex_aload_n dX12_copy_0 rfl rfl ?_
  refine Ex_iconst dX12_copy_1 rfl ?_
  refine Ex_put12 (k0 := 13) (v := 0) dX12_copy_2 rfl (ma0 M) rfl rfl rfl rfl rfl (by omega) rfl ?_
  refine mg0 M ?_
  intro h1_ M1_ f1_
  refine Ex_iload_n dX12_copy_5 rfl rfl ?_
  refine Ex_i2l dX12_copy_6 rfl (by omega) ?_
  refine Ex_lconst (z := 0) dX12_copy_7 rfl (by decide) ?_
  refine Ex_ldc2 (z := 7) dX12_copy_8 rfl rfl ?_
  refine Ex_stat 0 dX12_copy_11 rfl rfl (Or.inl rfl) rfl rfl rfl rfl rfl rfl (Ex_post (x12_in (by omega) (by omega) (by omega)) ?_)
  rintro _ _ ⟨rfl, e0⟩
  obtain rfl := Eq.symm e0
  refine Ex_if_eq (t := 29) dX12_copy_14 rfl rfl (by omega) (fun c14 => absurd c14 (by omega)) (fun c14 => ?_)
  refine Ex_iload_n dX12_copy_17 rfl rfl ?_
  refine Ex_i2l dX12_copy_18 rfl (by omega) ?_
  refine Ex_lconst (z := 0) dX12_copy_19 rfl (by decide) ?_
  refine Ex_ldc2 (z := 7) dX12_copy_20 rfl rfl ?_
  refine Ex_stat 0 dX12_copy_23 rfl rfl (Or.inl rfl) rfl rfl rfl rfl rfl rfl (Ex_post (x12_in (by omega) (by omega) (by omega)) ?_)
  rintro _ _ ⟨rfl, e0⟩
  obtain rfl := Eq.symm e0
  refine Ex_if_ne (t := 31) dX12_copy_26 rfl rfl (by omega) (fun c26 => ?_) (fun c26 => absurd c26 (by omega))
  refine Ex_aload_n dX12_copy_31 rfl rfl ?_
  refine Ex_getf dX12_copy_32 rfl (ma0 M1_) rfl rfl rfl ?_
  refine Ex_iload_n dX12_copy_35 rfl rfl ?_
  refine Ex_iald12 (c := a) dX12_copy_36 rfl (ma6 M1_) rfl (by omega) ?_
  rw [v6]
  refine Ex_if_eq (t := 49) dX12_copy_37 rfl rfl (by omega) (fun c37 => absurd c37 (by omega)) (fun c37 => ?_)
  refine Ex_aload_n dX12_copy_40 rfl rfl ?_
  refine Ex_getf dX12_copy_41 rfl (ma0 M1_) rfl rfl rfl ?_
  refine Ex_iload_n dX12_copy_44 rfl rfl ?_
  refine Ex_iald12 (c := b) dX12_copy_45 rfl (ma6 M1_) rfl (by omega) ?_
  rw [u6]
  refine Ex_if_ne (t := 52) dX12_copy_46 rfl rfl (by omega) (fun c46 => ?_) (fun c46 => absurd c46 (by omega))
  refine Ex_aload_n dX12_copy_52 rfl rfl ?_
  refine Ex_getf dX12_copy_53 rfl (ma0 M1_) rfl rfl rfl ?_
  refine Ex_iload_n dX12_copy_56 rfl rfl ?_
  refine Ex_iald12 (c := a) dX12_copy_57 rfl (ma6 M1_) rfl (by omega) ?_
  rw [v6]
  refine Ex_iconst dX12_copy_58 rfl ?_
  refine Ex_icmp_ne (t := 87) dX12_copy_59 rfl rfl (by omega) (fun c59 => ?_) (fun c59 => ?_)
  · refine Ex_bipush dX12_copy_87 rfl (by decide) ?_
    refine Ex_iret dX12_copy_89 rfl rfl ?_
    exact ⟨rfl, ⟨_, ⟨_, _, _, M1_, hn, h6, h23, fun _ _ => rfl⟩, V, h16⟩, f1_⟩
  · refine Ex_aload_n dX12_copy_62 rfl rfl ?_
    refine Ex_getf dX12_copy_63 rfl (ma0 M1_) rfl rfl rfl ?_
    refine Ex_iload_n dX12_copy_66 rfl rfl ?_
    refine Ex_iald12 (c := b) dX12_copy_67 rfl (ma6 M1_) rfl (by omega) ?_
    rw [u6]
    refine Ex_iconst dX12_copy_68 rfl ?_
    refine Ex_icmp_ne (t := 87) dX12_copy_69 rfl rfl (by omega) (fun c69 => ?_) (fun c69 => ?_)
    · refine Ex_bipush dX12_copy_87 rfl (by decide) ?_
      refine Ex_iret dX12_copy_89 rfl rfl ?_
      exact ⟨rfl, ⟨_, ⟨_, _, _, M1_, hn, h6, h23, fun _ _ => rfl⟩, V, h16⟩, f1_⟩
    · refine Ex_aload_n dX12_copy_72 rfl rfl ?_
      refine Ex_getf dX12_copy_73 rfl (ma0 M1_) rfl rfl rfl ?_
      refine Ex_iload_n dX12_copy_76 rfl rfl ?_
      refine Ex_iald12 (c := a) dX12_copy_77 rfl (ma9 M1_) rfl (by omega) ?_
      obtain ⟨w1, w2, w3, w4⟩ := vr (by omega)
      rw [w1.1]
      refine Ex_aload_n dX12_copy_78 rfl rfl ?_
      refine Ex_getf dX12_copy_79 rfl (ma0 M1_) rfl rfl rfl ?_
      refine Ex_iload_n dX12_copy_82 rfl rfl ?_
      refine Ex_iald12 (c := b) dX12_copy_83 rfl (ma9 M1_) rfl (by omega) ?_
      obtain ⟨x1, x2, x3, x4⟩ := ur (by omega)
      rw [x1.1]
      refine Ex_icmp_eq (t := 90) dX12_copy_84 rfl rfl (by omega) (fun c84 => ?_) (fun c84 => ?_)
      · exfalso; omega
      · refine Ex_bipush dX12_copy_87 rfl (by decide) ?_
        refine Ex_iret dX12_copy_89 rfl rfl ?_
        exact ⟨rfl, ⟨_, ⟨_, _, _, M1_, hn, h6, h23, fun _ _ => rfl⟩, V, h16⟩, f1_⟩
theorem x12_copy_13 {E : am_E} {d : Nat} {h : Hp} {m n : Nat} {mm hi : Int} {K F T S C : Nat → Int} {σ : Nat → Nat → Int} {hw ck cf rs : Nat → Int} {rx : Nat → List Int} {a p b r l : Int}  (I : MI h m (n, mm, K, F, T, S, C) hi σ) (hn6 : n ≤ 6) (hg : Rng n T S C) (hK : ∀ i, i < n → (0 ≤ K i ∧ K i ≤ 7) ∧ (0 ≤ F i ∧ F i ≤ 9)) (hB : E.2 ≤ m) (V : Sv σ hw ck cf rs rx) (ha : (-2147483648 ≤ a ∧ a ≤ 2147483647)) (hp : (-2147483648 ≤ p ∧ p ≤ 2147483647)) (hb : (-2147483648 ≤ b ∧ b ≤ 2147483647)) (hr : (-2147483648 ≤ r ∧ r ≤ 2147483647)) (hl : (-2147483648 ≤ l ∧ l ≤ 2147483647)) (q : (0 ≤ a ∧ a ≤ 7) ∧ (0 ≤ b ∧ b ≤ 7)) (q1 : ¬ (hw a.toNat = 0 ∨ hw b.toNat = 0)) (q2 : hw a.toNat = 2 ∧ hw b.toNat = 2 ∧ rs a.toNat = rs b.toNat) (q3 : ¬ ((0 ≤ p ∧ 0 ≤ l ∧ p ≤ ((rx a.toNat).length : Int) ∧ l ≤ ((rx a.toNat).length : Int) - p) ∧ (0 ≤ r ∧ 0 ≤ l ∧ r ≤ ((rx b.toNat).length : Int) ∧ l ≤ ((rx b.toNat).length : Int) - r)))  : Ex E (d + 1) mX12_copy 0 [.ref m, .int (i32 a), .int (i32 p), .int (i32 b), .int (i32 r), .int (i32 l), .retAddr 0] [] h (fun r1 h1 => r1 = some (.int (i32 (-13))) ∧ (∃ σ2, MI h1 m (n, mm, K, F, T, S, C) hi σ2 ∧ Sv σ2 hw ck cf rs rx ∧ σ2 16 = σ 16) ∧ Fr h h1 m (m + 23)) := by
  obtain ⟨g, ρ, kp, M, hn, h6, h23, hσ⟩ := I
  have M : MAt h m g K F T S C ρ kp := M
  have hn : g 0 = (n : Int) := hn
  have h6 : g 6 = mm := h6
  have V : Sv ρ hw ck cf rs rx := V.cg hσ
  have h16 : ρ 16 = σ 16 := hσ 16 (Or.inr rfl)
  clear hσ
  have hσ : ∀ j, (6 ≤ j ∧ j ≤ 11) ∨ j = 16 → ρ j = ρ j := fun _ _ => rfl
  obtain ⟨a, rfl⟩ := Int.eq_ofNat_of_zero_le q.1.1
  obtain ⟨b, rfl⟩ := Int.eq_ofNat_of_zero_le q.2.1
  simp only [Int.toNat_natCast] at *
  obtain ⟨v6, v3, vk, vr⟩ := V a (by omega)
  obtain ⟨u6, u3, uk, ur⟩ := V b (by omega)
  refine Ex_aload_n dX12_copy_0 rfl rfl ?_
  refine Ex_iconst dX12_copy_1 rfl ?_
  refine Ex_put12 (k0 := 13) (v := 0) dX12_copy_2 rfl (ma0 M) rfl rfl rfl rfl rfl (by omega) rfl ?_
  refine mg0 M ?_
  intro h1_ M1_ f1_
  refine Ex_iload_n dX12_copy_5 rfl rfl ?_
  refine Ex_i2l dX12_copy_6 rfl (by omega) ?_
  refine Ex_lconst (z := 0) dX12_copy_7 rfl (by decide) ?_
  refine Ex_ldc2 (z := 7) dX12_copy_8 rfl rfl ?_
  refine Ex_stat 0 dX12_copy_11 rfl rfl (Or.inl rfl) rfl rfl rfl rfl rfl rfl (Ex_post (x12_in (by omega) (by omega) (by omega)) ?_)
  rintro _ _ ⟨rfl, e0⟩
  obtain rfl := Eq.symm e0
  refine Ex_if_eq (t := 29) dX12_copy_14 rfl rfl (by omega) (fun c14 => absurd c14 (by omega)) (fun c14 => ?_)
  refine Ex_iload_n dX12_copy_17 rfl rfl ?_
  refine Ex_i2l dX12_copy_18 rfl (by omega) ?_
  refine Ex_lconst (z := 0) dX12_copy_19 rfl (by decide) ?_
  refine Ex_ldc2 (z := 7) dX12_copy_20 rfl rfl ?_
  refine Ex_stat 0 dX12_copy_23 rfl rfl (Or.inl rfl) rfl rfl rfl rfl rfl rfl (Ex_post (x12_in (by omega) (by omega) (by omega)) ?_)
  rintro _ _ ⟨rfl, e0⟩
  obtain rfl := Eq.symm e0
  refine Ex_if_ne (t := 31) dX12_copy_26 rfl rfl (by omega) (fun c26 => ?_) (fun c26 => absurd c26 (by omega))
  refine Ex_aload_n dX12_copy_31 rfl rfl ?_
  refine Ex_getf dX12_copy_32 rfl (ma0 M1_) rfl rfl rfl ?_
  refine Ex_iload_n dX12_copy_35 rfl rfl ?_
  refine Ex_iald12 (c := a) dX12_copy_36 rfl (ma6 M1_) rfl (by omega) ?_
  rw [v6]
  refine Ex_if_eq (t := 49) dX12_copy_37 rfl rfl (by omega) (fun c37 => absurd c37 (by omega)) (fun c37 => ?_)
  refine Ex_aload_n dX12_copy_40 rfl rfl ?_
  refine Ex_getf dX12_copy_41 rfl (ma0 M1_) rfl rfl rfl ?_
  refine Ex_iload_n dX12_copy_44 rfl rfl ?_
  refine Ex_iald12 (c := b) dX12_copy_45 rfl (ma6 M1_) rfl (by omega) ?_
  rw [u6]
  refine Ex_if_ne (t := 52) dX12_copy_46 rfl rfl (by omega) (fun c46 => ?_) (fun c46 => absurd c46 (by omega))
  refine Ex_aload_n dX12_copy_52 rfl rfl ?_
  refine Ex_getf dX12_copy_53 rfl (ma0 M1_) rfl rfl rfl ?_
  refine Ex_iload_n dX12_copy_56 rfl rfl ?_
  refine Ex_iald12 (c := a) dX12_copy_57 rfl (ma6 M1_) rfl (by omega) ?_
  rw [v6]
  refine Ex_iconst dX12_copy_58 rfl ?_
  refine Ex_icmp_ne (t := 87) dX12_copy_59 rfl rfl (by omega) (fun c59 => absurd c59 (by omega)) (fun c59 => ?_)
  refine Ex_aload_n dX12_copy_62 rfl rfl ?_
  refine Ex_getf dX12_copy_63 rfl (ma0 M1_) rfl rfl rfl ?_
  refine Ex_iload_n dX12_copy_66 rfl rfl ?_
  refine Ex_iald12 (c := b) dX12_copy_67 rfl (ma6 M1_) rfl (by omega) ?_
  rw [u6]
  refine Ex_iconst dX12_copy_68 rfl ?_
  refine Ex_icmp_ne (t := 87) dX12_copy_69 rfl rfl (by omega) (fun c69 => absurd c69 (by omega)) (fun c69 => ?_)
  refine Ex_aload_n dX12_copy_72 rfl rfl ?_
  refine Ex_getf dX12_copy_73 rfl (ma0 M1_) rfl rfl rfl ?_
  refine Ex_iload_n dX12_copy_76 rfl rfl ?_
  refine Ex_iald12 (c := a) dX12_copy_77 rfl (ma9 M1_) rfl (by omega) ?_
  obtain ⟨w1, w2, w3, w4⟩ := vr (by omega)
  rw [w1.1]
  refine Ex_aload_n dX12_copy_78 rfl rfl ?_
  refine Ex_getf dX12_copy_79 rfl (ma0 M1_) rfl rfl rfl ?_
  refine Ex_iload_n dX12_copy_82 rfl rfl ?_
  refine Ex_iald12 (c := b) dX12_copy_83 rfl (ma9 M1_) rfl (by omega) ?_
  obtain ⟨x1, x2, x3, x4⟩ := ur (by omega)
  rw [x1.1]
  refine Ex_icmp_eq (t := 90) dX12_copy_84 rfl rfl (by omega) (fun c84 => ?_) (fun c84 => absurd c84 (by omega))
  refine Ex_iload dX12_copy_90 rfl rfl ?_
  refine Ex_if_lt (t := 131) dX12_copy_92 rfl rfl (by omega) (fun c92 => ?_) (fun c92 => ?_)
  · refine Ex_bipush dX12_copy_131 rfl (by decide) ?_
    refine Ex_iret dX12_copy_133 rfl rfl ?_
    exact ⟨rfl, ⟨_, ⟨_, _, _, M1_, hn, h6, h23, fun _ _ => rfl⟩, V, h16⟩, f1_⟩
  · refine Ex_iload_n dX12_copy_95 rfl rfl ?_
    refine Ex_if_lt (t := 131) dX12_copy_96 rfl rfl (by omega) (fun c96 => ?_) (fun c96 => ?_)
    · refine Ex_bipush dX12_copy_131 rfl (by decide) ?_
      refine Ex_iret dX12_copy_133 rfl rfl ?_
      exact ⟨rfl, ⟨_, ⟨_, _, _, M1_, hn, h6, h23, fun _ _ => rfl⟩, V, h16⟩, f1_⟩
    · refine Ex_iload dX12_copy_99 rfl rfl ?_
      refine Ex_if_lt (t := 131) dX12_copy_101 rfl rfl (by omega) (fun c101 => ?_) (fun c101 => ?_)
      · refine Ex_bipush dX12_copy_131 rfl (by decide) ?_
        refine Ex_iret dX12_copy_133 rfl rfl ?_
        exact ⟨rfl, ⟨_, ⟨_, _, _, M1_, hn, h6, h23, fun _ _ => rfl⟩, V, h16⟩, f1_⟩
      · refine Ex_iload_n dX12_copy_104 rfl rfl ?_
        refine Ex_aload_n dX12_copy_105 rfl rfl ?_
        refine Ex_getf dX12_copy_106 rfl (ma0 M1_) rfl rfl rfl ?_
        refine Ex_iload_n dX12_copy_109 rfl rfl ?_
        refine Ex_iald12 (c := a) dX12_copy_110 rfl (ma10 M1_) rfl (by omega) ?_
        rw [w2]
        refine Ex_iload dX12_copy_111 rfl rfl ?_
        refine Ex_isub dX12_copy_113 rfl ?_
        refine Ex_icmp_gt (t := 131) dX12_copy_114 rfl rfl (by omega) (fun c114 => ?_) (fun c114 => ?_)
        · refine Ex_bipush dX12_copy_131 rfl (by decide) ?_
          refine Ex_iret dX12_copy_133 rfl rfl ?_
          exact ⟨rfl, ⟨_, ⟨_, _, _, M1_, hn, h6, h23, fun _ _ => rfl⟩, V, h16⟩, f1_⟩
        · refine Ex_iload dX12_copy_117 rfl rfl ?_
          refine Ex_aload_n dX12_copy_119 rfl rfl ?_
          refine Ex_getf dX12_copy_120 rfl (ma0 M1_) rfl rfl rfl ?_
          refine Ex_iload_n dX12_copy_123 rfl rfl ?_
          refine Ex_iald12 (c := b) dX12_copy_124 rfl (ma10 M1_) rfl (by omega) ?_
          rw [x2]
          refine Ex_iload dX12_copy_125 rfl rfl ?_
          refine Ex_isub dX12_copy_127 rfl ?_
          refine Ex_icmp_le (t := 134) dX12_copy_128 rfl rfl (by omega) (fun c128 => ?_) (fun c128 => ?_)
          · exfalso; omega
          · refine Ex_bipush dX12_copy_131 rfl (by decide) ?_
            refine Ex_iret dX12_copy_133 rfl rfl ?_
            exact ⟨rfl, ⟨_, ⟨_, _, _, M1_, hn, h6, h23, fun _ _ => rfl⟩, V, h16⟩, f1_⟩
theorem x12_copy_1l {E : am_E} {d m a p b r l : Nat} {g K F T S C : Nat → Int} {kp : Value} {Q : Option Value → Hp → Prop} (hB : E.2 ≤ m) (ha : a < 8) (hp : p + l ≤ 100) : ∀ (k c : Nat) (h : Hp) (ρ : Nat → Nat → Int), c + k = l → MAt h m g K F T S C ρ kp → (∀ h1 f2, MAt h1 m g K F T S C (fuR ρ 22 f2) kp → Fr h h1 m (m + 23) → (∀ t, (c ≤ t ∧ t < l → f2 t = ρ 11 (100 * a + p + t)) ∧ (t < c → f2 t = ρ 22 t)) → Ex E (d + 1) mX12_copy 171 [.ref m, .int (i32 (a : Int)), .int (i32 (p : Int)), .int (i32 (b : Int)), .int (i32 (r : Int)), .int (i32 (l : Int)), .int (i32 (l : Int))] [] h1 Q) → Ex E (d + 1) mX12_copy 137 [.ref m, .int (i32 (a : Int)), .int (i32 (p : Int)), .int (i32 (b : Int)), .int (i32 (r : Int)), .int (i32 (l : Int)), .int (i32 (c : Int))] [] h Q := by
  intro k
  induction k with
  | zero =>
    intro c h ρ hk M kont
    obtain rfl : c = l := by omega
    refine Ex_iload dX12_copy_137 rfl rfl ?_
    refine Ex_iload dX12_copy_139 rfl rfl ?_
    refine Ex_icmp_ge (t := 171) dX12_copy_141 rfl rfl (by omega) (fun c141 => ?_) (fun c141 => absurd c141 (by omega))
    refine kont _ (ρ 22) (by rw [fuR_same]; exact M) (Fr.rf _ _ _) (fun t => ⟨fun z => by omega, fun _ => rfl⟩)
  | succ k ih =>
    intro c h ρ hk M kont
    refine Ex_iload dX12_copy_137 rfl rfl ?_
    refine Ex_iload dX12_copy_139 rfl rfl ?_
    refine Ex_icmp_ge (t := 171) dX12_copy_141 rfl rfl (by omega) (fun c141 => absurd c141 (by omega)) (fun c141 => ?_)
    refine Ex_aload_n dX12_copy_144 rfl rfl ?_
    refine Ex_getf dX12_copy_145 rfl (ma0 M) rfl rfl rfl ?_
    refine Ex_iload dX12_copy_148 rfl rfl ?_
    refine Ex_aload_n dX12_copy_150 rfl rfl ?_
    refine Ex_getf dX12_copy_151 rfl (ma0 M) rfl rfl rfl ?_
    refine Ex_bipush dX12_copy_154 rfl (by decide) ?_
    refine Ex_iload_n dX12_copy_156 rfl rfl ?_
    refine Ex_imul dX12_copy_157 rfl ?_
    refine Ex_iload_n dX12_copy_158 rfl rfl ?_
    refine Ex_iadd dX12_copy_159 rfl ?_
    refine Ex_iload dX12_copy_160 rfl rfl ?_
    refine Ex_iadd dX12_copy_162 rfl ?_
    refine Ex_lald12 (c := (100 * a + p + c)) dX12_copy_163 rfl (ma11 M) (by omega) (by omega) ?_
    refine Ex_last12 (c := c) dX12_copy_164 rfl (ma22 M) rfl (by omega) (by omega) ?_
    refine mg22 M ?_
    intro h1_ M1_ f1_
    refine Ex_iinc (L2 := [_, _, _, _, _, _, _]) dX12_copy_165 rfl rfl rfl ?_
    refine Ex_goto (t := 137) dX12_copy_168 rfl ?_
    refine ih (c + 1) _ _ (by omega) M1_ (fun h1 f2 y1 y2 y3 => ?_)
    rw [fuR_fuR] at y1
    refine kont h1 f2 y1 (f1_.trans y2) (fun t => ⟨fun z => ?_, fun z => ?_⟩)
    · by_cases e : t = c
      · rw [(y3 t).2 (by omega), fuR_at, e, fu_at]
      · rw [(y3 t).1 (by omega), fuR_ne (by decide)]
    · rw [(y3 t).2 (by omega), fuR_at, fu_ne (by omega)]
theorem x12_copy_2l {E : am_E} {d : Nat} {m a p b r l : Nat} {g K F T S C : Nat → Int} {kp : Value}  (hB : E.2 ≤ m) (ha : b < 8) (hp : r + l ≤ 100)  : ∀ (k : Nat) (c : Nat) (h : Hp) (ρ : Nat → Nat → Int), c + k = l → MAt h m g K F T S C ρ kp → Ex E (d + 1) mX12_copy 174 [.ref m, .int (i32 (a : Int)), .int (i32 (p : Int)), .int (i32 (b : Int)), .int (i32 (r : Int)), .int (i32 (l : Int)), .int (i32 (c : Int))] [] h (fun r1 h1 => r1 = some (.int (i32 (l : Int))) ∧ (∃ f2, MAt h1 m g K F T S C (fuR ρ 11 f2) kp ∧ (∀ t, c ≤ t → t < l → f2 (100 * b + r + t) = ρ 22 t) ∧ ∀ j, ¬ (100 * b + r + c ≤ j ∧ j < 100 * b + r + l) → f2 j = ρ 11 j) ∧ Fr h h1 m (m + 23)) := by
  intro k
  induction k with
  | zero =>
    intro c h ρ hk M
    refine Ex_iload dX12_copy_174 rfl rfl ?_
    refine Ex_iload dX12_copy_176 rfl rfl ?_
    refine Ex_icmp_ge (t := 209) dX12_copy_178 rfl rfl (by omega) (fun c178 => ?_) (fun c178 => absurd c178 (by omega))
    refine Ex_iload dX12_copy_209 rfl rfl ?_
    refine Ex_iret dX12_copy_211 rfl rfl ?_
    refine ⟨rfl, ⟨ρ 11, by rw [fuR_same]; exact M, fun t z1 z2 => by omega, fun j _ => rfl⟩, Fr.rf _ _ _⟩
  | succ k ih =>
    intro c h ρ hk M
    refine Ex_iload dX12_copy_174 rfl rfl ?_
    refine Ex_iload dX12_copy_176 rfl rfl ?_
    refine Ex_icmp_ge (t := 209) dX12_copy_178 rfl rfl (by omega) (fun c178 => absurd c178 (by omega)) (fun c178 => ?_)
    refine Ex_aload_n dX12_copy_181 rfl rfl ?_
    refine Ex_getf dX12_copy_182 rfl (ma0 M) rfl rfl rfl ?_
    refine Ex_bipush dX12_copy_185 rfl (by decide) ?_
    refine Ex_iload_n dX12_copy_187 rfl rfl ?_
    refine Ex_imul dX12_copy_188 rfl ?_
    refine Ex_iload dX12_copy_189 rfl rfl ?_
    refine Ex_iadd dX12_copy_191 rfl ?_
    refine Ex_iload dX12_copy_192 rfl rfl ?_
    refine Ex_iadd dX12_copy_194 rfl ?_
    refine Ex_aload_n dX12_copy_195 rfl rfl ?_
    refine Ex_getf dX12_copy_196 rfl (ma0 M) rfl rfl rfl ?_
    refine Ex_iload dX12_copy_199 rfl rfl ?_
    refine Ex_lald12 (c := c) dX12_copy_201 rfl (ma22 M) rfl (by omega) ?_
    refine Ex_last12 (c := (100 * b + r + c)) dX12_copy_202 rfl (ma11 M) (by omega) (by omega) (by omega) ?_
    refine mg11 M ?_
    intro h1_ M1_ f1_
    refine Ex_iinc (L2 := [_, _, _, _, _, _, _]) dX12_copy_203 rfl rfl rfl ?_
    refine Ex_goto (t := 174) dX12_copy_206 rfl ?_
    refine Ex_post (ih (c + 1) _ _ (by omega) M1_) ?_
    rintro r1 h1 ⟨rfl, ⟨f2, y1, y2, y3⟩, y4⟩
    rw [fuR_fuR] at y1
    refine ⟨rfl, ⟨f2, y1, fun t z1 z2 => ?_, fun j z => ?_⟩, f1_.trans y4⟩
    · by_cases e : t = c
      · rw [y3 _ (by omega), fuR_at, e, fu_at]
      · rw [y2 t (by omega) z2, fuR_ne (by decide)]
    · rw [y3 j (by omega), fuR_at, fu_ne (by omega)]
theorem x12_copy_yes {E : am_E} {d : Nat} {h : Hp} {m n : Nat} {mm hi : Int} {K F T S C : Nat → Int} {σ : Nat → Nat → Int} {hw ck cf rs : Nat → Int} {rx : Nat → List Int} {a p b r l : Int}  (I : MI h m (n, mm, K, F, T, S, C) hi σ) (hn6 : n ≤ 6) (hg : Rng n T S C) (hK : ∀ i, i < n → (0 ≤ K i ∧ K i ≤ 7) ∧ (0 ≤ F i ∧ F i ≤ 9)) (hB : E.2 ≤ m) (V : Sv σ hw ck cf rs rx) (ha : (-2147483648 ≤ a ∧ a ≤ 2147483647)) (hp : (-2147483648 ≤ p ∧ p ≤ 2147483647)) (hb : (-2147483648 ≤ b ∧ b ≤ 2147483647)) (hr : (-2147483648 ≤ r ∧ r ≤ 2147483647)) (hl : (-2147483648 ≤ l ∧ l ≤ 2147483647)) (q : (0 ≤ a ∧ a ≤ 7) ∧ (0 ≤ b ∧ b ≤ 7)) (q1 : ¬ (hw a.toNat = 0 ∨ hw b.toNat = 0)) (q2 : hw a.toNat = 2 ∧ hw b.toNat = 2 ∧ rs a.toNat = rs b.toNat) (q3 : ((0 ≤ p ∧ 0 ≤ l ∧ p ≤ ((rx a.toNat).length : Int) ∧ l ≤ ((rx a.toNat).length : Int) - p) ∧ (0 ≤ r ∧ 0 ≤ l ∧ r ≤ ((rx b.toNat).length : Int) ∧ l ≤ ((rx b.toNat).length : Int) - r)))  : Ex E (d + 1) mX12_copy 0 [.ref m, .int (i32 a), .int (i32 p), .int (i32 b), .int (i32 r), .int (i32 l), .retAddr 0] [] h (fun r1 h1 => r1 = some (.int (i32 (l))) ∧ (∃ σ2, MI h1 m (n, mm, K, F, T, S, C) hi σ2 ∧ Sv σ2 hw ck cf rs (fuL rx b.toNat (cpL (rx a.toNat) (rx b.toNat) p.toNat r.toNat l.toNat)) ∧ σ2 16 = σ 16) ∧ Fr h h1 m (m + 23)) := by
  obtain ⟨g, ρ, kp, M, hn, h6, h23, hσ⟩ := I
  have M : MAt h m g K F T S C ρ kp := M
  have hn : g 0 = (n : Int) := hn
  have h6 : g 6 = mm := h6
  have V : Sv ρ hw ck cf rs rx := V.cg hσ
  have h16 : ρ 16 = σ 16 := hσ 16 (Or.inr rfl)
  clear hσ
  have hσ : ∀ j, (6 ≤ j ∧ j ≤ 11) ∨ j = 16 → ρ j = ρ j := fun _ _ => rfl
  obtain ⟨a, rfl⟩ := Int.eq_ofNat_of_zero_le q.1.1
  obtain ⟨b, rfl⟩ := Int.eq_ofNat_of_zero_le q.2.1
  simp only [Int.toNat_natCast] at *
  obtain ⟨v6, v3, vk, vr⟩ := V a (by omega)
  obtain ⟨u6, u3, uk, ur⟩ := V b (by omega)
  obtain ⟨p, rfl⟩ := Int.eq_ofNat_of_zero_le q3.1.1
  obtain ⟨r, rfl⟩ := Int.eq_ofNat_of_zero_le q3.2.1
  obtain ⟨l, rfl⟩ := Int.eq_ofNat_of_zero_le q3.1.2.1
  simp only [Int.toNat_natCast] at *
  obtain ⟨W1, W2, W3, W4⟩ := vr q2.1
  obtain ⟨X1, X2, X3, X4⟩ := ur q2.2.1
  refine Ex_aload_n dX12_copy_0 rfl rfl ?_
  refine Ex_iconst dX12_copy_1 rfl ?_
  refine Ex_put12 (k0 := 13) (v := 0) dX12_copy_2 rfl (ma0 M) rfl rfl rfl rfl rfl (by omega) rfl ?_
  refine mg0 M ?_
  intro h1_ M1_ f1_
  refine Ex_iload_n dX12_copy_5 rfl rfl ?_
  refine Ex_i2l dX12_copy_6 rfl (by omega) ?_
  refine Ex_lconst (z := 0) dX12_copy_7 rfl (by decide) ?_
  refine Ex_ldc2 (z := 7) dX12_copy_8 rfl rfl ?_
  refine Ex_stat 0 dX12_copy_11 rfl rfl (Or.inl rfl) rfl rfl rfl rfl rfl rfl (Ex_post (x12_in (by omega) (by omega) (by omega)) ?_)
  rintro _ _ ⟨rfl, e0⟩
  obtain rfl := Eq.symm e0
  refine Ex_if_eq (t := 29) dX12_copy_14 rfl rfl (by omega) (fun c14 => absurd c14 (by omega)) (fun c14 => ?_)
  refine Ex_iload_n dX12_copy_17 rfl rfl ?_
  refine Ex_i2l dX12_copy_18 rfl (by omega) ?_
  refine Ex_lconst (z := 0) dX12_copy_19 rfl (by decide) ?_
  refine Ex_ldc2 (z := 7) dX12_copy_20 rfl rfl ?_
  refine Ex_stat 0 dX12_copy_23 rfl rfl (Or.inl rfl) rfl rfl rfl rfl rfl rfl (Ex_post (x12_in (by omega) (by omega) (by omega)) ?_)
  rintro _ _ ⟨rfl, e0⟩
  obtain rfl := Eq.symm e0
  refine Ex_if_ne (t := 31) dX12_copy_26 rfl rfl (by omega) (fun c26 => ?_) (fun c26 => absurd c26 (by omega))
  refine Ex_aload_n dX12_copy_31 rfl rfl ?_
  refine Ex_getf dX12_copy_32 rfl (ma0 M1_) rfl rfl rfl ?_
  refine Ex_iload_n dX12_copy_35 rfl rfl ?_
  refine Ex_iald12 (c := a) dX12_copy_36 rfl (ma6 M1_) rfl (by omega) ?_
  rw [v6]
  refine Ex_if_eq (t := 49) dX12_copy_37 rfl rfl (by omega) (fun c37 => absurd c37 (by omega)) (fun c37 => ?_)
  refine Ex_aload_n dX12_copy_40 rfl rfl ?_
  refine Ex_getf dX12_copy_41 rfl (ma0 M1_) rfl rfl rfl ?_
  refine Ex_iload_n dX12_copy_44 rfl rfl ?_
  refine Ex_iald12 (c := b) dX12_copy_45 rfl (ma6 M1_) rfl (by omega) ?_
  rw [u6]
  refine Ex_if_ne (t := 52) dX12_copy_46 rfl rfl (by omega) (fun c46 => ?_) (fun c46 => absurd c46 (by omega))
  refine Ex_aload_n dX12_copy_52 rfl rfl ?_
  refine Ex_getf dX12_copy_53 rfl (ma0 M1_) rfl rfl rfl ?_
  refine Ex_iload_n dX12_copy_56 rfl rfl ?_
  refine Ex_iald12 (c := a) dX12_copy_57 rfl (ma6 M1_) rfl (by omega) ?_
  rw [v6]
  refine Ex_iconst dX12_copy_58 rfl ?_
  refine Ex_icmp_ne (t := 87) dX12_copy_59 rfl rfl (by omega) (fun c59 => absurd c59 (by omega)) (fun c59 => ?_)
  refine Ex_aload_n dX12_copy_62 rfl rfl ?_
  refine Ex_getf dX12_copy_63 rfl (ma0 M1_) rfl rfl rfl ?_
  refine Ex_iload_n dX12_copy_66 rfl rfl ?_
  refine Ex_iald12 (c := b) dX12_copy_67 rfl (ma6 M1_) rfl (by omega) ?_
  rw [u6]
  refine Ex_iconst dX12_copy_68 rfl ?_
  refine Ex_icmp_ne (t := 87) dX12_copy_69 rfl rfl (by omega) (fun c69 => absurd c69 (by omega)) (fun c69 => ?_)
  refine Ex_aload_n dX12_copy_72 rfl rfl ?_
  refine Ex_getf dX12_copy_73 rfl (ma0 M1_) rfl rfl rfl ?_
  refine Ex_iload_n dX12_copy_76 rfl rfl ?_
  refine Ex_iald12 (c := a) dX12_copy_77 rfl (ma9 M1_) rfl (by omega) ?_
  obtain ⟨w1, w2, w3, w4⟩ := vr (by omega)
  rw [w1.1]
  refine Ex_aload_n dX12_copy_78 rfl rfl ?_
  refine Ex_getf dX12_copy_79 rfl (ma0 M1_) rfl rfl rfl ?_
  refine Ex_iload_n dX12_copy_82 rfl rfl ?_
  refine Ex_iald12 (c := b) dX12_copy_83 rfl (ma9 M1_) rfl (by omega) ?_
  obtain ⟨x1, x2, x3, x4⟩ := ur (by omega)
  rw [x1.1]
  refine Ex_icmp_eq (t := 90) dX12_copy_84 rfl rfl (by omega) (fun c84 => ?_) (fun c84 => absurd c84 (by omega))
  refine Ex_iload dX12_copy_90 rfl rfl ?_
  refine Ex_if_lt (t := 131) dX12_copy_92 rfl rfl (by omega) (fun c92 => absurd c92 (by omega)) (fun c92 => ?_)
  refine Ex_iload_n dX12_copy_95 rfl rfl ?_
  refine Ex_if_lt (t := 131) dX12_copy_96 rfl rfl (by omega) (fun c96 => absurd c96 (by omega)) (fun c96 => ?_)
  refine Ex_iload dX12_copy_99 rfl rfl ?_
  refine Ex_if_lt (t := 131) dX12_copy_101 rfl rfl (by omega) (fun c101 => absurd c101 (by omega)) (fun c101 => ?_)
  refine Ex_iload_n dX12_copy_104 rfl rfl ?_
  refine Ex_aload_n dX12_copy_105 rfl rfl ?_
  refine Ex_getf dX12_copy_106 rfl (ma0 M1_) rfl rfl rfl ?_
  refine Ex_iload_n dX12_copy_109 rfl rfl ?_
  refine Ex_iald12 (c := a) dX12_copy_110 rfl (ma10 M1_) rfl (by omega) ?_
  rw [w2]
  refine Ex_iload dX12_copy_111 rfl rfl ?_
  refine Ex_isub dX12_copy_113 rfl ?_
  refine Ex_icmp_gt (t := 131) dX12_copy_114 rfl rfl (by omega) (fun c114 => absurd c114 (by omega)) (fun c114 => ?_)
  refine Ex_iload dX12_copy_117 rfl rfl ?_
  refine Ex_aload_n dX12_copy_119 rfl rfl ?_
  refine Ex_getf dX12_copy_120 rfl (ma0 M1_) rfl rfl rfl ?_
  refine Ex_iload_n dX12_copy_123 rfl rfl ?_
  refine Ex_iald12 (c := b) dX12_copy_124 rfl (ma10 M1_) rfl (by omega) ?_
  rw [x2]
  refine Ex_iload dX12_copy_125 rfl rfl ?_
  refine Ex_isub dX12_copy_127 rfl ?_
  refine Ex_icmp_le (t := 134) dX12_copy_128 rfl rfl (by omega) (fun c128 => ?_) (fun c128 => absurd c128 (by omega))
  refine Ex_iconst dX12_copy_134 rfl ?_
  refine Ex_istore (L2 := [_, _, _, _, _, _, _]) dX12_copy_135 rfl rfl rfl ?_
  refine x12_copy_1l hB (by omega) (by omega) l 0 _ _ (by omega) M1_ (fun h7 f2 y1 y2 y3 => ?_)
  refine Ex_iconst dX12_copy_171 rfl ?_
  refine Ex_istore (L2 := [_, _, _, _, _, _, _]) dX12_copy_172 rfl rfl rfl ?_
  refine Ex_post (x12_copy_2l (a := a) (p := p) hB (by omega) (by omega) l 0 _ _ (by omega) y1) ?_
  rintro r1 h8 ⟨rfl, ⟨f3, z1, z2, z3⟩, z4⟩
  refine ⟨rfl, ⟨_, ⟨_, _, _, z1, hn, h6, h23, fun _ _ => rfl⟩, ?_, h16⟩, (f1_.trans y2).trans z4⟩
  have hcl : (cpL (rx a) (rx b) p r l).length = (rx b).length := cpL_len (by omega) (by omega)
  refine V.cells (d := b) q2.2.1 hcl rfl rfl rfl rfl rfl (fun j hj => ?_) (fun j hj => ?_)
  · rw [hcl] at hj
    show f3 (100 * b + j) = _ ∧ _
    rw [cpL_get (by omega) (by omega)]
    by_cases e : r ≤ j ∧ j < r + l
    · rw [if_pos e]
      have e1 := z2 (j - r) (by omega) (by omega)
      rw [show 100 * b + r + (j - r) = 100 * b + j by omega, fuR_at, (y3 (j - r)).1 (by omega), show 100 * a + p + (j - r) = 100 * a + (p + (j - r)) by omega] at e1
      have e2 := W4 (p + (j - r)) (by omega)
      rw [e1]
      exact e2
    · rw [if_neg e, z3 _ (by omega)]
      exact X4 j hj
  · show f3 j = ρ 11 j
    rw [z3 _ (by omega)]; rfl
theorem gx_row {ρ : Nat → Nat → Int} {xs : List Int} {a : Nat} (h : ∀ i, i < xs.length → ρ 11 (100 * a + i) = xs.getD i 0 ∧ (-2147483648 ≤ xs.getD i 0 ∧ xs.getD i 0 ≤ 2147483647)) {i : Nat} (hi : i < xs.length) : ρ 11 (100 * a + i) = gx xs (i : Int) ∧ (-2147483648 ≤ gx xs (i : Int) ∧ gx xs (i : Int) ≤ 2147483647) := by
  have e : gx xs (i : Int) = xs.getD i 0 := if_pos ⟨by omega, by omega⟩
  rw [e]
  exact h i hi
theorem x12_was_i {E : am_E} {d m a kk : Nat} {h : Hp} {v f w acc : Int} {v5 : Value} {g K F T S C : Nat → Int} {ρ : Nat → Nat → Int} {kp : Value} {xs : List Int} {Q : Option Value → Hp → Prop} (M : MAt h m g K F T S C ρ kp) (ha : a < 8) (hkk : kk < 8) (hv : 0 ≤ v ∧ v ≤ 20) (hf : 0 ≤ f ∧ f ≤ 9) (hlen : ρ 10 a = (xs.length : Int)) (hl2 : xs.length ≤ 100) (hx : ∀ i, i < xs.length → ρ 11 (100 * a + i) = xs.getD i 0 ∧ (-2147483648 ≤ xs.getD i 0 ∧ xs.getD i 0 ≤ 2147483647)) : ∀ (k c : Nat) (fl : Bool), c + k = xs.length → (∀ z : Int, Ex E (d + 2) mX12_was 140 [.ref m, .int (i32 (a : Int)), .int (i32 v), .int (i32 f), .int (i32 w), v5, .int (i32 acc), .int (i32 (kk : Int)), .int (i32 (if (fl && tl xs v (sp_holds (kk : Int) f) (c : Int) k) = true then 1 else 0)), .int (i32 z)] [] h Q) → Ex E (d + 2) mX12_was 78 [.ref m, .int (i32 (a : Int)), .int (i32 v), .int (i32 f), .int (i32 w), v5, .int (i32 acc), .int (i32 (kk : Int)), .int (i32 (if fl = true then 1 else 0)), .int (i32 (c : Int))] [] h Q := by
  intro k
  induction k with
  | zero =>
    intro c fl hk kont
    refine Ex_iload dX12_was_78 rfl rfl ?_
    refine Ex_aload_n dX12_was_80 rfl rfl ?_
    refine Ex_getf dX12_was_81 rfl (ma0 M) rfl rfl rfl ?_
    refine Ex_iload_n dX12_was_84 rfl rfl ?_
    refine Ex_iald12 (c := a) dX12_was_85 rfl (ma10 M) rfl (by omega) ?_
    rw [hlen]
    refine Ex_icmp_ge (t := 140) dX12_was_86 rfl rfl (by omega) (fun c86 => ?_) (fun c86 => absurd c86 (by omega))
    have z := kont (c : Int)
    rw [show (fl && tl xs v (sp_holds (kk : Int) f) (c : Int) 0) = fl by simp [tl]] at z
    exact z
  | succ k ih =>
    intro c fl hk kont
    have hho := sp_holds_r (k := (kk : Int)) hf
    have hm1 : (c : Int) * sp_holds (kk : Int) f ≤ 100 * 6 := Int.mul_le_mul (by omega) (by omega) (by omega) (by omega)
    have hm0 : 0 ≤ (c : Int) * sp_holds (kk : Int) f := Int.mul_nonneg (by omega) (by omega)
    obtain ⟨g1, g2⟩ := gx_row hx (show c < xs.length by omega)
    have eh : hl (v + (c : Int) * sp_holds (kk : Int) f) 20 = min 20 (v + (c : Int) * sp_holds (kk : Int) f) := by unfold hl; rw [if_neg (by omega)]; split <;> omega
    have et : tl xs v (sp_holds (kk : Int) f) (c : Int) (k + 1) = if gx xs (c : Int) = min 20 (v + (c : Int) * sp_holds (kk : Int) f) then tl xs v (sp_holds (kk : Int) f) ((c : Int) + 1) k else false := rfl
    rw [et] at kont
    by_cases q : gx xs (c : Int) = min 20 (v + (c : Int) * sp_holds (kk : Int) f)
    · rw [if_pos q] at kont
      cases fl
      · simp only [Bool.false_eq_true, if_false]
        refine Ex_iload dX12_was_78 rfl rfl ?_
        refine Ex_aload_n dX12_was_80 rfl rfl ?_
        refine Ex_getf dX12_was_81 rfl (ma0 M) rfl rfl rfl ?_
        refine Ex_iload_n dX12_was_84 rfl rfl ?_
        refine Ex_iald12 (c := a) dX12_was_85 rfl (ma10 M) rfl (by omega) ?_
        rw [hlen]
        refine Ex_icmp_ge (t := 140) dX12_was_86 rfl rfl (by omega) (fun c86 => absurd c86 (by omega)) (fun c86 => ?_)
        refine Ex_iload dX12_was_89 rfl rfl ?_
        refine Ex_if_eq (t := 131) dX12_was_91 rfl rfl (by omega) (fun c91 => ?_) (fun c91 => absurd c91 (by omega))
        refine Ex_iconst dX12_was_131 rfl ?_
        refine Ex_istore (L2 := [_, _, _, _, _, _, _, _, _, _]) dX12_was_132 rfl rfl rfl ?_
        refine Ex_iinc (L2 := [_, _, _, _, _, _, _, _, _, _]) dX12_was_134 rfl rfl rfl ?_
        refine Ex_goto (t := 78) dX12_was_137 rfl ?_
        refine ih (c + 1) false (by omega) (fun z => ?_)
        have z := kont z
        simp only [Bool.false_and] at z ⊢
        exact z
      · simp only [if_true]
        refine Ex_iload dX12_was_78 rfl rfl ?_
        refine Ex_aload_n dX12_was_80 rfl rfl ?_
        refine Ex_getf dX12_was_81 rfl (ma0 M) rfl rfl rfl ?_
        refine Ex_iload_n dX12_was_84 rfl rfl ?_
        refine Ex_iald12 (c := a) dX12_was_85 rfl (ma10 M) rfl (by omega) ?_
        rw [hlen]
        refine Ex_icmp_ge (t := 140) dX12_was_86 rfl rfl (by omega) (fun c86 => absurd c86 (by omega)) (fun c86 => ?_)
        refine Ex_iload dX12_was_89 rfl rfl ?_
        refine Ex_if_eq (t := 131) dX12_was_91 rfl rfl (by omega) (fun c91 => absurd c91 (by omega)) (fun c91 => ?_)
        refine Ex_aload_n dX12_was_94 rfl rfl ?_
        refine Ex_getf dX12_was_95 rfl (ma0 M) rfl rfl rfl ?_
        refine Ex_bipush dX12_was_98 rfl (by decide) ?_
        refine Ex_iload_n dX12_was_100 rfl rfl ?_
        refine Ex_imul dX12_was_101 rfl ?_
        refine Ex_iload dX12_was_102 rfl rfl ?_
        refine Ex_iadd dX12_was_104 rfl ?_
        refine Ex_lald12 (c := (100 * a + c)) dX12_was_105 rfl (ma11 M) (by omega) (by omega) ?_
        rw [g1]
        refine Ex_iload_n dX12_was_106 rfl rfl ?_
        refine Ex_iload dX12_was_107 rfl rfl ?_
        refine Ex_iload dX12_was_109 rfl rfl ?_
        refine Ex_iload_n dX12_was_111 rfl rfl ?_
        refine Ex_stat 0 dX12_was_112 rfl rfl (Or.inl rfl) rfl rfl rfl rfl rfl rfl (Ex_post (x12_holdsBy (by omega) hf) ?_)
        rintro _ _ ⟨rfl, e0⟩
        obtain rfl := Eq.symm e0
        refine Ex_imul dX12_was_115 rfl ?_
        refine Ex_iadd dX12_was_116 rfl ?_
        refine Ex_bipush dX12_was_117 rfl (by decide) ?_
        refine Ex_stat 0 dX12_was_119 rfl rfl (Or.inl rfl) rfl rfl rfl rfl rfl rfl (Ex_post (x12_held (by omega) (by omega)) ?_)
        rintro _ _ ⟨rfl, e0⟩
        obtain rfl := Eq.symm e0
        rw [eh]
        refine Ex_i2l dX12_was_122 rfl (by omega) ?_
        refine Ex_lcmp dX12_was_123 rfl (by omega) ?_
        refine Ex_if_ne (t := 131) dX12_was_124 rfl rfl (by have l1 := lcmp_r (a := gx xs (c : Int)) (b := min 20 (v + (c : Int) * sp_holds (kk : Int) f)); omega) (fun c124 => absurd c124 (by have l2 := lcmp_eq (a := gx xs (c : Int)) (b := min 20 (v + (c : Int) * sp_holds (kk : Int) f)); omega)) (fun c124 => ?_)
        refine Ex_iconst dX12_was_127 rfl ?_
        refine Ex_goto (t := 132) dX12_was_128 rfl ?_
        refine Ex_istore (L2 := [_, _, _, _, _, _, _, _, _, _]) dX12_was_132 rfl rfl rfl ?_
        refine Ex_iinc (L2 := [_, _, _, _, _, _, _, _, _, _]) dX12_was_134 rfl rfl rfl ?_
        refine Ex_goto (t := 78) dX12_was_137 rfl ?_
        refine ih (c + 1) true (by omega) (fun z => ?_)
        have z := kont z
        simp only [Bool.true_and] at z ⊢
        exact z
    · rw [if_neg q] at kont
      cases fl
      · simp only [Bool.false_eq_true, if_false]
        refine Ex_iload dX12_was_78 rfl rfl ?_
        refine Ex_aload_n dX12_was_80 rfl rfl ?_
        refine Ex_getf dX12_was_81 rfl (ma0 M) rfl rfl rfl ?_
        refine Ex_iload_n dX12_was_84 rfl rfl ?_
        refine Ex_iald12 (c := a) dX12_was_85 rfl (ma10 M) rfl (by omega) ?_
        rw [hlen]
        refine Ex_icmp_ge (t := 140) dX12_was_86 rfl rfl (by omega) (fun c86 => absurd c86 (by omega)) (fun c86 => ?_)
        refine Ex_iload dX12_was_89 rfl rfl ?_
        refine Ex_if_eq (t := 131) dX12_was_91 rfl rfl (by omega) (fun c91 => ?_) (fun c91 => absurd c91 (by omega))
        refine Ex_iconst dX12_was_131 rfl ?_
        refine Ex_istore (L2 := [_, _, _, _, _, _, _, _, _, _]) dX12_was_132 rfl rfl rfl ?_
        refine Ex_iinc (L2 := [_, _, _, _, _, _, _, _, _, _]) dX12_was_134 rfl rfl rfl ?_
        refine Ex_goto (t := 78) dX12_was_137 rfl ?_
        refine ih (c + 1) false (by omega) (fun z => ?_)
        have z := kont z
        simp only [Bool.false_and] at z ⊢
        exact z
      · simp only [if_true]
        refine Ex_iload dX12_was_78 rfl rfl ?_
        refine Ex_aload_n dX12_was_80 rfl rfl ?_
        refine Ex_getf dX12_was_81 rfl (ma0 M) rfl rfl rfl ?_
        refine Ex_iload_n dX12_was_84 rfl rfl ?_
        refine Ex_iald12 (c := a) dX12_was_85 rfl (ma10 M) rfl (by omega) ?_
        rw [hlen]
        refine Ex_icmp_ge (t := 140) dX12_was_86 rfl rfl (by omega) (fun c86 => absurd c86 (by omega)) (fun c86 => ?_)
        refine Ex_iload dX12_was_89 rfl rfl ?_
        refine Ex_if_eq (t := 131) dX12_was_91 rfl rfl (by omega) (fun c91 => absurd c91 (by omega)) (fun c91 => ?_)
        refine Ex_aload_n dX12_was_94 rfl rfl ?_
        refine Ex_getf dX12_was_95 rfl (ma0 M) rfl rfl rfl ?_
        refine Ex_bipush dX12_was_98 rfl (by decide) ?_
        refine Ex_iload_n dX12_was_100 rfl rfl ?_
        refine Ex_imul dX12_was_101 rfl ?_
        refine Ex_iload dX12_was_102 rfl rfl ?_
        refine Ex_iadd dX12_was_104 rfl ?_
        refine Ex_lald12 (c := (100 * a + c)) dX12_was_105 rfl (ma11 M) (by omega) (by omega) ?_
        rw [g1]
        refine Ex_iload_n dX12_was_106 rfl rfl ?_
        refine Ex_iload dX12_was_107 rfl rfl ?_
        refine Ex_iload dX12_was_109 rfl rfl ?_
        refine Ex_iload_n dX12_was_111 rfl rfl ?_
        refine Ex_stat 0 dX12_was_112 rfl rfl (Or.inl rfl) rfl rfl rfl rfl rfl rfl (Ex_post (x12_holdsBy (by omega) hf) ?_)
        rintro _ _ ⟨rfl, e0⟩
        obtain rfl := Eq.symm e0
        refine Ex_imul dX12_was_115 rfl ?_
        refine Ex_iadd dX12_was_116 rfl ?_
        refine Ex_bipush dX12_was_117 rfl (by decide) ?_
        refine Ex_stat 0 dX12_was_119 rfl rfl (Or.inl rfl) rfl rfl rfl rfl rfl rfl (Ex_post (x12_held (by omega) (by omega)) ?_)
        rintro _ _ ⟨rfl, e0⟩
        obtain rfl := Eq.symm e0
        rw [eh]
        refine Ex_i2l dX12_was_122 rfl (by omega) ?_
        refine Ex_lcmp dX12_was_123 rfl (by omega) ?_
        refine Ex_if_ne (t := 131) dX12_was_124 rfl rfl (by have l1 := lcmp_r (a := gx xs (c : Int)) (b := min 20 (v + (c : Int) * sp_holds (kk : Int) f)); omega) (fun c124 => ?_) (fun c124 => absurd c124 (by have l2 := lcmp_eq (a := gx xs (c : Int)) (b := min 20 (v + (c : Int) * sp_holds (kk : Int) f)); omega))
        refine Ex_iconst dX12_was_131 rfl ?_
        refine Ex_istore (L2 := [_, _, _, _, _, _, _, _, _, _]) dX12_was_132 rfl rfl rfl ?_
        refine Ex_iinc (L2 := [_, _, _, _, _, _, _, _, _, _]) dX12_was_134 rfl rfl rfl ?_
        refine Ex_goto (t := 78) dX12_was_137 rfl ?_
        refine ih (c + 1) false (by omega) (fun z => ?_)
        have z := kont z
        simp only [Bool.false_and, Bool.true_and] at z ⊢
        exact z
