/-! the reference: a STATEMENT's numbers read (by program: wip/whole/spec_sa.py) -/
theorem x12_rn_98 {E : am_E} {d : Nat} {h : Hp} {m a p bs : Nat} {w : Int} {xs : List Int} {g K F T S C : Nat → Int} {ρ : Nat → Nat → Int} {kp : Value}  (M : MAt h m g K F T S C ρ kp) (hB : E.2 ≤ m) (ha : a < 8) (hlen : ρ 10 a = (xs.length : Int)) (hl2 : xs.length ≤ 100) (hx : ∀ i, i < xs.length → ρ 11 (100 * a + i) = xs.getD i 0 ∧ (-2147483648 ≤ xs.getD i 0 ∧ xs.getD i 0 ≤ 2147483647)) (h14 : g 14 = (a : Int)) (h15 : g 15 = (p : Int)) (h16 : g 16 = w) (hw : w = 0 ∨ w = 1) (hp : p ≤ 900) (hbs : bs + 3 ≤ 153)  : Ex E (d + 2) mX12_readNumbers 0 [.ref m, .int (i32 98), .int (i32 (bs : Int))] [] h (fun r1 h1 => r1 = none ∧ (∃ g2 f2, MAt h1 m g2 K F T S C (fuR ρ 14 f2) kp ∧ g2 16 = (rdg xs 1 w p 0).1 ∧ g2 15 = (((rdg xs 1 w p 0).2.1 : Nat) : Int) ∧ f2 (bs + 0) = (rdg xs 1 w p 0).2.2 ∧ (∀ j, j < bs ∨ bs + 3 ≤ j → f2 j = ρ 14 j) ∧ ∀ j, j ≠ 15 → j ≠ 16 → g2 j = g j) ∧ Fr h h1 m (m + 23)) := by
  have v1 := rdg_v (xs := xs) 1 w p 0 hw
  refine Ex_aload_n dX12_readNumbers_0 rfl rfl ?_
  refine Ex_getf dX12_readNumbers_1 rfl (ma0 M) rfl rfl rfl ?_
  refine Ex_iload_n dX12_readNumbers_4 rfl rfl ?_
  refine Ex_aload_n dX12_readNumbers_5 rfl rfl ?_
  refine Ex_iconst dX12_readNumbers_6 rfl ?_
  refine Ex_inv 2 dX12_readNumbers_7 rfl rfl (Or.inl rfl) rfl rfl rfl rfl (ma0 M) rfl rfl rfl (Ex_post (x12_readDigits (k := 1) M hB ha (by exact hlen) hl2 (by exact hx) h14 h15 h16 hw (by omega) (by omega)) ?_)
  rintro _ h1_ ⟨rfl, ⟨gA, M1_, t16A, t15A, eA⟩, f1_⟩
  refine Ex_iast12 (c := bs) dX12_readNumbers_10 rfl (ma14 M1_) rfl (by omega) (by omega) ?_
  refine mg14 M1_ ?_
  intro h2_ M2_ f2_
  refine Ex_iload_n dX12_readNumbers_11 rfl rfl ?_
  refine Ex_bipush dX12_readNumbers_12 rfl (by decide) ?_
  refine Ex_icmp_ne (t := 46) dX12_readNumbers_14 rfl rfl (by omega) (fun c14 => ?_) (fun c14 => absurd c14 (by omega))
  refine Ex_iload_n dX12_readNumbers_46 rfl rfl ?_
  refine Ex_bipush dX12_readNumbers_47 rfl (by decide) ?_
  refine Ex_icmp_eq (t := 75) dX12_readNumbers_49 rfl rfl (by omega) (fun c49 => ?_) (fun c49 => absurd c49 (by omega))
  refine Ex_vret dX12_readNumbers_75 rfl ?_
  refine ⟨rfl, ⟨_, _, M2_, t16A, t15A, by rw [Nat.add_zero, fu_at], fun j hj => ?_, fun j j1 j2 => ?_⟩, (f1_.trans f2_)⟩
  · rw [fu_ne (by omega)]
  · exact eA j j1 j2
theorem x12_rn_116 {E : am_E} {d : Nat} {h : Hp} {m a p bs : Nat} {w : Int} {xs : List Int} {g K F T S C : Nat → Int} {ρ : Nat → Nat → Int} {kp : Value}  (M : MAt h m g K F T S C ρ kp) (hB : E.2 ≤ m) (ha : a < 8) (hlen : ρ 10 a = (xs.length : Int)) (hl2 : xs.length ≤ 100) (hx : ∀ i, i < xs.length → ρ 11 (100 * a + i) = xs.getD i 0 ∧ (-2147483648 ≤ xs.getD i 0 ∧ xs.getD i 0 ≤ 2147483647)) (h14 : g 14 = (a : Int)) (h15 : g 15 = (p : Int)) (h16 : g 16 = w) (hw : w = 0 ∨ w = 1) (hp : p ≤ 900) (hbs : bs + 3 ≤ 153)  : Ex E (d + 2) mX12_readNumbers 0 [.ref m, .int (i32 116), .int (i32 (bs : Int))] [] h (fun r1 h1 => r1 = none ∧ (∃ g2 f2, MAt h1 m g2 K F T S C (fuR ρ 14 f2) kp ∧ g2 16 = (rdg xs 2 (rdg xs 1 w p 0).1 (rdg xs 1 w p 0).2.1 0).1 ∧ g2 15 = (((rdg xs 2 (rdg xs 1 w p 0).1 (rdg xs 1 w p 0).2.1 0).2.1 : Nat) : Int) ∧ f2 (bs + 0) = (rdg xs 1 w p 0).2.2 ∧ f2 (bs + 1) = (rdg xs 2 (rdg xs 1 w p 0).1 (rdg xs 1 w p 0).2.1 0).2.2 ∧ (∀ j, j < bs ∨ bs + 3 ≤ j → f2 j = ρ 14 j) ∧ ∀ j, j ≠ 15 → j ≠ 16 → g2 j = g j) ∧ Fr h h1 m (m + 23)) := by
  have v1 := rdg_v (xs := xs) 1 w p 0 hw
  refine Ex_aload_n dX12_readNumbers_0 rfl rfl ?_
  refine Ex_getf dX12_readNumbers_1 rfl (ma0 M) rfl rfl rfl ?_
  refine Ex_iload_n dX12_readNumbers_4 rfl rfl ?_
  refine Ex_aload_n dX12_readNumbers_5 rfl rfl ?_
  refine Ex_iconst dX12_readNumbers_6 rfl ?_
  refine Ex_inv 2 dX12_readNumbers_7 rfl rfl (Or.inl rfl) rfl rfl rfl rfl (ma0 M) rfl rfl rfl (Ex_post (x12_readDigits (k := 1) M hB ha (by exact hlen) hl2 (by exact hx) h14 h15 h16 hw (by omega) (by omega)) ?_)
  rintro _ h1_ ⟨rfl, ⟨gA, M1_, t16A, t15A, eA⟩, f1_⟩
  refine Ex_iast12 (c := bs) dX12_readNumbers_10 rfl (ma14 M1_) rfl (by omega) (by omega) ?_
  refine mg14 M1_ ?_
  intro h2_ M2_ f2_
  refine Ex_iload_n dX12_readNumbers_11 rfl rfl ?_
  refine Ex_bipush dX12_readNumbers_12 rfl (by decide) ?_
  refine Ex_icmp_ne (t := 46) dX12_readNumbers_14 rfl rfl (by omega) (fun c14 => ?_) (fun c14 => absurd c14 (by omega))
  refine Ex_iload_n dX12_readNumbers_46 rfl rfl ?_
  refine Ex_bipush dX12_readNumbers_47 rfl (by decide) ?_
  refine Ex_icmp_eq (t := 75) dX12_readNumbers_49 rfl rfl (by omega) (fun c49 => absurd c49 (by omega)) (fun c49 => ?_)
  refine Ex_aload_n dX12_readNumbers_52 rfl rfl ?_
  refine Ex_getf dX12_readNumbers_53 rfl (ma0 M2_) rfl rfl rfl ?_
  refine Ex_iload_n dX12_readNumbers_56 rfl rfl ?_
  refine Ex_iconst dX12_readNumbers_57 rfl ?_
  refine Ex_iadd dX12_readNumbers_58 rfl ?_
  refine Ex_aload_n dX12_readNumbers_59 rfl rfl ?_
  refine Ex_iload_n dX12_readNumbers_60 rfl rfl ?_
  refine Ex_bipush dX12_readNumbers_61 rfl (by decide) ?_
  refine Ex_icmp_ne (t := 70) dX12_readNumbers_63 rfl rfl (by omega) (fun c63 => absurd c63 (by omega)) (fun c63 => ?_)
  refine Ex_iconst dX12_readNumbers_66 rfl ?_
  refine Ex_goto (t := 71) dX12_readNumbers_67 rfl ?_
  refine Ex_inv 2 dX12_readNumbers_71 rfl rfl (Or.inl rfl) rfl rfl rfl rfl (ma0 M2_) rfl rfl rfl (Ex_post (x12_readDigits (k := 2) M2_ hB ha (by rw [fuR_ne (by decide)]; exact hlen) hl2 (by simp only [fuR_ne (show (11 : Nat) ≠ 14 by decide)]; exact hx) (by rw [eA _ (by decide) (by decide)]; exact h14) t15A t16A v1.1 (by omega) (by omega)) ?_)
  rintro _ h3_ ⟨rfl, ⟨gB, M3_, t16B, t15B, eB⟩, f3_⟩
  refine Ex_iast12 (c := (bs + 1)) dX12_readNumbers_74 rfl (ma14 M3_) (by omega) (by omega) (by omega) ?_
  refine mg14 M3_ ?_
  intro h4_ M4_ f4_
  refine Ex_vret dX12_readNumbers_75 rfl ?_
  rw [fuR_fuR, fuR_at] at M4_
  refine ⟨rfl, ⟨_, _, M4_, t16B, t15B, (by rw [fu_ne (show bs + 0 ≠ bs + 1 by omega)]; exact fu_at _ _ _), (by rw [fu_at]), fun j hj => ?_, fun j j1 j2 => ?_⟩, (f1_.trans (f2_.trans (f3_.trans f4_)))⟩
  · rw [fu_ne (by omega), fu_ne (by omega)]
  · rw [eB j j1 j2, eA j j1 j2]
theorem x12_rn_o {E : am_E} {d : Nat} {h : Hp} {m a p bs : Nat} {w : Int} {xs : List Int} {g K F T S C : Nat → Int} {ρ : Nat → Nat → Int} {kp : Value} {z : Int}  (M : MAt h m g K F T S C ρ kp) (hB : E.2 ≤ m) (ha : a < 8) (hlen : ρ 10 a = (xs.length : Int)) (hl2 : xs.length ≤ 100) (hx : ∀ i, i < xs.length → ρ 11 (100 * a + i) = xs.getD i 0 ∧ (-2147483648 ≤ xs.getD i 0 ∧ xs.getD i 0 ≤ 2147483647)) (h14 : g 14 = (a : Int)) (h15 : g 15 = (p : Int)) (h16 : g 16 = w) (hw : w = 0 ∨ w = 1) (hp : p ≤ 900) (hbs : bs + 3 ≤ 153) (hz : -2147483648 ≤ z ∧ z ≤ 2147483647) (hz2 : z ≠ 98 ∧ z ≠ 99 ∧ z ≠ 116)  : Ex E (d + 2) mX12_readNumbers 0 [.ref m, .int (i32 z), .int (i32 (bs : Int))] [] h (fun r1 h1 => r1 = none ∧ (∃ g2 f2, MAt h1 m g2 K F T S C (fuR ρ 14 f2) kp ∧ g2 16 = (rdg xs 1 (rdg xs 1 w p 0).1 (rdg xs 1 w p 0).2.1 0).1 ∧ g2 15 = (((rdg xs 1 (rdg xs 1 w p 0).1 (rdg xs 1 w p 0).2.1 0).2.1 : Nat) : Int) ∧ f2 (bs + 0) = (rdg xs 1 w p 0).2.2 ∧ f2 (bs + 1) = (rdg xs 1 (rdg xs 1 w p 0).1 (rdg xs 1 w p 0).2.1 0).2.2 ∧ (∀ j, j < bs ∨ bs + 3 ≤ j → f2 j = ρ 14 j) ∧ ∀ j, j ≠ 15 → j ≠ 16 → g2 j = g j) ∧ Fr h h1 m (m + 23)) := by
  have v1 := rdg_v (xs := xs) 1 w p 0 hw
  refine Ex_aload_n dX12_readNumbers_0 rfl rfl ?_
  refine Ex_getf dX12_readNumbers_1 rfl (ma0 M) rfl rfl rfl ?_
  refine Ex_iload_n dX12_readNumbers_4 rfl rfl ?_
  refine Ex_aload_n dX12_readNumbers_5 rfl rfl ?_
  refine Ex_iconst dX12_readNumbers_6 rfl ?_
  refine Ex_inv 2 dX12_readNumbers_7 rfl rfl (Or.inl rfl) rfl rfl rfl rfl (ma0 M) rfl rfl rfl (Ex_post (x12_readDigits (k := 1) M hB ha (by exact hlen) hl2 (by exact hx) h14 h15 h16 hw (by omega) (by omega)) ?_)
  rintro _ h1_ ⟨rfl, ⟨gA, M1_, t16A, t15A, eA⟩, f1_⟩
  refine Ex_iast12 (c := bs) dX12_readNumbers_10 rfl (ma14 M1_) rfl (by omega) (by omega) ?_
  refine mg14 M1_ ?_
  intro h2_ M2_ f2_
  refine Ex_iload_n dX12_readNumbers_11 rfl rfl ?_
  refine Ex_bipush dX12_readNumbers_12 rfl (by decide) ?_
  refine Ex_icmp_ne (t := 46) dX12_readNumbers_14 rfl rfl (by omega) (fun c14 => ?_) (fun c14 => absurd c14 (by omega))
  refine Ex_iload_n dX12_readNumbers_46 rfl rfl ?_
  refine Ex_bipush dX12_readNumbers_47 rfl (by decide) ?_
  refine Ex_icmp_eq (t := 75) dX12_readNumbers_49 rfl rfl (by omega) (fun c49 => absurd c49 (by omega)) (fun c49 => ?_)
  refine Ex_aload_n dX12_readNumbers_52 rfl rfl ?_
  refine Ex_getf dX12_readNumbers_53 rfl (ma0 M2_) rfl rfl rfl ?_
  refine Ex_iload_n dX12_readNumbers_56 rfl rfl ?_
  refine Ex_iconst dX12_readNumbers_57 rfl ?_
  refine Ex_iadd dX12_readNumbers_58 rfl ?_
  refine Ex_aload_n dX12_readNumbers_59 rfl rfl ?_
  refine Ex_iload_n dX12_readNumbers_60 rfl rfl ?_
  refine Ex_bipush dX12_readNumbers_61 rfl (by decide) ?_
  refine Ex_icmp_ne (t := 70) dX12_readNumbers_63 rfl rfl (by omega) (fun c63 => ?_) (fun c63 => absurd c63 (by omega))
  refine Ex_iconst dX12_readNumbers_70 rfl ?_
  refine Ex_inv 2 dX12_readNumbers_71 rfl rfl (Or.inl rfl) rfl rfl rfl rfl (ma0 M2_) rfl rfl rfl (Ex_post (x12_readDigits (k := 1) M2_ hB ha (by rw [fuR_ne (by decide)]; exact hlen) hl2 (by simp only [fuR_ne (show (11 : Nat) ≠ 14 by decide)]; exact hx) (by rw [eA _ (by decide) (by decide)]; exact h14) t15A t16A v1.1 (by omega) (by omega)) ?_)
  rintro _ h3_ ⟨rfl, ⟨gB, M3_, t16B, t15B, eB⟩, f3_⟩
  refine Ex_iast12 (c := (bs + 1)) dX12_readNumbers_74 rfl (ma14 M3_) (by omega) (by omega) (by omega) ?_
  refine mg14 M3_ ?_
  intro h4_ M4_ f4_
  refine Ex_vret dX12_readNumbers_75 rfl ?_
  rw [fuR_fuR, fuR_at] at M4_
  refine ⟨rfl, ⟨_, _, M4_, t16B, t15B, (by rw [fu_ne (show bs + 0 ≠ bs + 1 by omega)]; exact fu_at _ _ _), (by rw [fu_at]), fun j hj => ?_, fun j j1 j2 => ?_⟩, (f1_.trans (f2_.trans (f3_.trans f4_)))⟩
  · rw [fu_ne (by omega), fu_ne (by omega)]
  · rw [eB j j1 j2, eA j j1 j2]
theorem x12_rn_99 {E : am_E} {d : Nat} {h : Hp} {m a p bs : Nat} {w : Int} {xs : List Int} {g K F T S C : Nat → Int} {ρ : Nat → Nat → Int} {kp : Value}  (M : MAt h m g K F T S C ρ kp) (hB : E.2 ≤ m) (ha : a < 8) (hlen : ρ 10 a = (xs.length : Int)) (hl2 : xs.length ≤ 100) (hx : ∀ i, i < xs.length → ρ 11 (100 * a + i) = xs.getD i 0 ∧ (-2147483648 ≤ xs.getD i 0 ∧ xs.getD i 0 ≤ 2147483647)) (h14 : g 14 = (a : Int)) (h15 : g 15 = (p : Int)) (h16 : g 16 = w) (hw : w = 0 ∨ w = 1) (hp : p ≤ 900) (hbs : bs + 3 ≤ 153)  : Ex E (d + 2) mX12_readNumbers 0 [.ref m, .int (i32 99), .int (i32 (bs : Int))] [] h (fun r1 h1 => r1 = none ∧ (∃ g2 f2, MAt h1 m g2 K F T S C (fuR ρ 14 f2) kp ∧ g2 16 = (rdg xs 2 (rdg xs 1 (rdg xs 1 w p 0).1 (rdg xs 1 w p 0).2.1 0).1 (rdg xs 1 (rdg xs 1 w p 0).1 (rdg xs 1 w p 0).2.1 0).2.1 0).1 ∧ g2 15 = (((rdg xs 2 (rdg xs 1 (rdg xs 1 w p 0).1 (rdg xs 1 w p 0).2.1 0).1 (rdg xs 1 (rdg xs 1 w p 0).1 (rdg xs 1 w p 0).2.1 0).2.1 0).2.1 : Nat) : Int) ∧ f2 (bs + 0) = (rdg xs 1 w p 0).2.2 ∧ f2 (bs + 1) = (rdg xs 1 (rdg xs 1 w p 0).1 (rdg xs 1 w p 0).2.1 0).2.2 ∧ f2 (bs + 2) = (rdg xs 2 (rdg xs 1 (rdg xs 1 w p 0).1 (rdg xs 1 w p 0).2.1 0).1 (rdg xs 1 (rdg xs 1 w p 0).1 (rdg xs 1 w p 0).2.1 0).2.1 0).2.2 ∧ (∀ j, j < bs ∨ bs + 3 ≤ j → f2 j = ρ 14 j) ∧ ∀ j, j ≠ 15 → j ≠ 16 → g2 j = g j) ∧ Fr h h1 m (m + 23)) := by
  have v1 := rdg_v (xs := xs) 1 w p 0 hw
  have v2 := rdg_v (xs := xs) 1 (rdg xs 1 w p 0).1 (rdg xs 1 w p 0).2.1 0 v1.1
  refine Ex_aload_n dX12_readNumbers_0 rfl rfl ?_
  refine Ex_getf dX12_readNumbers_1 rfl (ma0 M) rfl rfl rfl ?_
  refine Ex_iload_n dX12_readNumbers_4 rfl rfl ?_
  refine Ex_aload_n dX12_readNumbers_5 rfl rfl ?_
  refine Ex_iconst dX12_readNumbers_6 rfl ?_
  refine Ex_inv 2 dX12_readNumbers_7 rfl rfl (Or.inl rfl) rfl rfl rfl rfl (ma0 M) rfl rfl rfl (Ex_post (x12_readDigits (k := 1) M hB ha (by exact hlen) hl2 (by exact hx) h14 h15 h16 hw (by omega) (by omega)) ?_)
  rintro _ h1_ ⟨rfl, ⟨gA, M1_, t16A, t15A, eA⟩, f1_⟩
  refine Ex_iast12 (c := bs) dX12_readNumbers_10 rfl (ma14 M1_) rfl (by omega) (by omega) ?_
  refine mg14 M1_ ?_
  intro h2_ M2_ f2_
  refine Ex_iload_n dX12_readNumbers_11 rfl rfl ?_
  refine Ex_bipush dX12_readNumbers_12 rfl (by decide) ?_
  refine Ex_icmp_ne (t := 46) dX12_readNumbers_14 rfl rfl (by omega) (fun c14 => absurd c14 (by omega)) (fun c14 => ?_)
  refine Ex_aload_n dX12_readNumbers_17 rfl rfl ?_
  refine Ex_getf dX12_readNumbers_18 rfl (ma0 M2_) rfl rfl rfl ?_
  refine Ex_iload_n dX12_readNumbers_21 rfl rfl ?_
  refine Ex_iconst dX12_readNumbers_22 rfl ?_
  refine Ex_iadd dX12_readNumbers_23 rfl ?_
  refine Ex_aload_n dX12_readNumbers_24 rfl rfl ?_
  refine Ex_iconst dX12_readNumbers_25 rfl ?_
  refine Ex_inv 2 dX12_readNumbers_26 rfl rfl (Or.inl rfl) rfl rfl rfl rfl (ma0 M2_) rfl rfl rfl (Ex_post (x12_readDigits (k := 1) M2_ hB ha (by rw [fuR_ne (by decide)]; exact hlen) hl2 (by simp only [fuR_ne (show (11 : Nat) ≠ 14 by decide)]; exact hx) (by rw [eA _ (by decide) (by decide)]; exact h14) t15A t16A v1.1 (by omega) (by omega)) ?_)
  rintro _ h3_ ⟨rfl, ⟨gB, M3_, t16B, t15B, eB⟩, f3_⟩
  refine Ex_iast12 (c := (bs + 1)) dX12_readNumbers_29 rfl (ma14 M3_) (by omega) (by omega) (by omega) ?_
  refine mg14 M3_ ?_
  intro h4_ M4_ f4_
  refine Ex_aload_n dX12_readNumbers_30 rfl rfl ?_
  refine Ex_getf dX12_readNumbers_31 rfl (ma0 M4_) rfl rfl rfl ?_
  refine Ex_iload_n dX12_readNumbers_34 rfl rfl ?_
  refine Ex_iconst dX12_readNumbers_35 rfl ?_
  refine Ex_iadd dX12_readNumbers_36 rfl ?_
  refine Ex_aload_n dX12_readNumbers_37 rfl rfl ?_
  refine Ex_iconst dX12_readNumbers_38 rfl ?_
  refine Ex_inv 2 dX12_readNumbers_39 rfl rfl (Or.inl rfl) rfl rfl rfl rfl (ma0 M4_) rfl rfl rfl (Ex_post (x12_readDigits (k := 2) M4_ hB ha (by rw [fuR_ne (by decide)]; exact hlen) hl2 (by simp only [fuR_ne (show (11 : Nat) ≠ 14 by decide)]; exact hx) (by rw [eB _ (by decide) (by decide), eA _ (by decide) (by decide)]; exact h14) t15B t16B v2.1 (by omega) (by omega)) ?_)
  rintro _ h5_ ⟨rfl, ⟨gC, M5_, t16C, t15C, eC⟩, f5_⟩
  refine Ex_iast12 (c := (bs + 2)) dX12_readNumbers_42 rfl (ma14 M5_) (by omega) (by omega) (by omega) ?_
  refine mg14 M5_ ?_
  intro h6_ M6_ f6_
  refine Ex_goto (t := 75) dX12_readNumbers_43 rfl ?_
  refine Ex_vret dX12_readNumbers_75 rfl ?_
  simp only [fuR_fuR, fuR_at] at M6_
  refine ⟨rfl, ⟨_, _, M6_, t16C, t15C, (by rw [fu_ne (show bs + 0 ≠ bs + 2 by omega), fu_ne (show bs + 0 ≠ bs + 1 by omega)]; exact fu_at _ _ _), (by rw [fu_ne (by omega), fu_at]), (by rw [fu_at]), fun j hj => ?_, fun j j1 j2 => ?_⟩, (f1_.trans (f2_.trans (f3_.trans (f4_.trans (f5_.trans f6_)))))⟩
  · rw [fu_ne (by omega), fu_ne (by omega), fu_ne (by omega)]
  · rw [eC j j1 j2, eB j j1 j2, eA j j1 j2]
