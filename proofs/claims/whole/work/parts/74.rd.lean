/-! the reference: back from a row; its state (by program: wip/whole/spec_rd.py) -/
def upk (f K F T S C : Nat → Int) (c : Nat) : Prop := ∀ i, i < c → K i = f (2 + 5 * i) ∧ F i = f (2 + 5 * i + 1) ∧ T i = f (2 + 5 * i + 2) ∧ S i = f (2 + 5 * i + 3) ∧ C i = f (2 + 5 * i + 4)
theorem upk.st {f K F T S C : Nat → Int} {c : Nat} (u : upk f K F T S C c) : upk f (fu K c (f (2 + 5 * c))) (fu F c (f (2 + 5 * c + 1))) (fu T c (f (2 + 5 * c + 2))) (fu S c (f (2 + 5 * c + 3))) (fu C c (f (2 + 5 * c + 4))) (c + 1) := by
  intro i hi
  by_cases e : i = c
  · subst e
    rw [fu_at, fu_at, fu_at, fu_at, fu_at]
    exact ⟨rfl, rfl, rfl, rfl, rfl⟩
  · rw [fu_ne e, fu_ne e, fu_ne e, fu_ne e, fu_ne e]
    exact u i (by omega)
theorem x12_allG15_l {E : am_E} {d m : Nat} {g0 : Nat → Int} {ρ : Nat → Nat → Int} (hB : E.2 ≤ m) : ∀ (k c : Nat) (g K F T S C : Nat → Int) (h : Hp), c + k = 6 → MAt h m g K F T S C ρ (.ref (m + 15)) → g 25 = 0 → g 24 = ((2 + 5 * c : Nat) : Int) → upk (ρ 15) K F T S C c → (∀ k, k ≠ 24 → k ≠ 25 → g k = g0 k) → Ex E (d + 1) mX12_carryAll 41 [.ref m, .ref (m + 15), .int (i32 0), .int (i32 (c : Int))] [] h (fun r1 h1 => r1 = none ∧ (∃ g2 K2 F2 T2 S2 C2, MAt h1 m g2 K2 F2 T2 S2 C2 ρ (.ref (m + 15)) ∧ upk (ρ 15) K2 F2 T2 S2 C2 6 ∧ ∀ k, k ≠ 24 → k ≠ 25 → g2 k = g0 k) ∧ Fr h h1 m (m + 23)) := by
  intro k
  induction k with
  | zero =>
    intro c g K F T S C h hk M h25 h24 hu hg0
    refine Ex_iload_n dX12_carryAll_41 rfl rfl ?_
    refine Ex_bipush dX12_carryAll_42 rfl (by decide) ?_
    refine Ex_icmp_ge (t := 133) dX12_carryAll_44 rfl rfl (by omega) (fun c44 => ?_) (fun c44 => absurd c44 (by omega))
    refine Ex_vret dX12_carryAll_133 rfl ?_
    obtain rfl : c = 6 := by omega
    exact ⟨rfl, ⟨g, K, F, T, S, C, M, hu, hg0⟩, Fr.rf _ _ _⟩
  | succ k ih =>
    intro c g K F T S C h hk M h25 h24 hu hg0
    refine Ex_iload_n dX12_carryAll_41 rfl rfl ?_
    refine Ex_bipush dX12_carryAll_42 rfl (by decide) ?_
    refine Ex_icmp_ge (t := 133) dX12_carryAll_44 rfl rfl (by omega) (fun c44 => absurd c44 (by omega)) (fun c44 => ?_)
    refine Ex_aload_n dX12_carryAll_47 rfl rfl ?_
    refine Ex_getf dX12_carryAll_48 rfl (ma0 M) rfl rfl rfl ?_
    refine Ex_iload_n dX12_carryAll_51 rfl rfl ?_
    refine Ex_aload_n dX12_carryAll_52 rfl rfl ?_
    refine Ex_aload_n dX12_carryAll_53 rfl rfl ?_
    refine Ex_getf dX12_carryAll_54 rfl (ma0 M) rfl rfl rfl ?_
    refine Ex_iload_n dX12_carryAll_57 rfl rfl ?_
    refine Ex_iald12 (c := c) dX12_carryAll_58 rfl (ma1 M) rfl (by omega) ?_
    refine Ex_inv 2 dX12_carryAll_59 rfl rfl (Or.inl rfl) rfl rfl rfl rfl (ma0 M) rfl rfl rfl (Ex_post (x12_carryG15 (p := 2 + 5 * c + 0) M hB h25 (by rw [h24]; rfl) (by omega)) ?_)
    rintro _ h1_ ⟨rfl, ⟨g1_, M1_, t1, e1⟩, f1_⟩
    refine Ex_iast12 (c := c) dX12_carryAll_62 rfl (ma1 M1_) rfl (by omega) (by omega) ?_
    refine mg1 M1_ ?_
    intro h2_ M2_ f2_
    refine Ex_aload_n dX12_carryAll_63 rfl rfl ?_
    refine Ex_getf dX12_carryAll_64 rfl (ma0 M2_) rfl rfl rfl ?_
    refine Ex_iload_n dX12_carryAll_67 rfl rfl ?_
    refine Ex_aload_n dX12_carryAll_68 rfl rfl ?_
    refine Ex_aload_n dX12_carryAll_69 rfl rfl ?_
    refine Ex_getf dX12_carryAll_70 rfl (ma0 M2_) rfl rfl rfl ?_
    refine Ex_iload_n dX12_carryAll_73 rfl rfl ?_
    refine Ex_iald12 (c := c) dX12_carryAll_74 rfl (ma2 M2_) rfl (by omega) ?_
    refine Ex_inv 2 dX12_carryAll_75 rfl rfl (Or.inl rfl) rfl rfl rfl rfl (ma0 M2_) rfl rfl rfl (Ex_post (x12_carryG15 (p := 2 + 5 * c + 1) M2_ hB (by rw [e1 _ (by decide)]; exact h25) (by rw [t1, h24]; omega) (by omega)) ?_)
    rintro _ h3_ ⟨rfl, ⟨g2_, M3_, t2, e2⟩, f3_⟩
    refine Ex_iast12 (c := c) dX12_carryAll_78 rfl (ma2 M3_) rfl (by omega) (by omega) ?_
    refine mg2 M3_ ?_
    intro h4_ M4_ f4_
    refine Ex_aload_n dX12_carryAll_79 rfl rfl ?_
    refine Ex_getf dX12_carryAll_80 rfl (ma0 M4_) rfl rfl rfl ?_
    refine Ex_iload_n dX12_carryAll_83 rfl rfl ?_
    refine Ex_aload_n dX12_carryAll_84 rfl rfl ?_
    refine Ex_aload_n dX12_carryAll_85 rfl rfl ?_
    refine Ex_getf dX12_carryAll_86 rfl (ma0 M4_) rfl rfl rfl ?_
    refine Ex_iload_n dX12_carryAll_89 rfl rfl ?_
    refine Ex_iald12 (c := c) dX12_carryAll_90 rfl (ma3 M4_) rfl (by omega) ?_
    refine Ex_inv 2 dX12_carryAll_91 rfl rfl (Or.inl rfl) rfl rfl rfl rfl (ma0 M4_) rfl rfl rfl (Ex_post (x12_carryG15 (p := 2 + 5 * c + 2) M4_ hB (by rw [e2 _ (by decide), e1 _ (by decide)]; exact h25) (by rw [t2, t1, h24]; omega) (by omega)) ?_)
    rintro _ h5_ ⟨rfl, ⟨g3_, M5_, t3, e3⟩, f5_⟩
    refine Ex_iast12 (c := c) dX12_carryAll_94 rfl (ma3 M5_) rfl (by omega) (by omega) ?_
    refine mg3 M5_ ?_
    intro h6_ M6_ f6_
    refine Ex_aload_n dX12_carryAll_95 rfl rfl ?_
    refine Ex_getf dX12_carryAll_96 rfl (ma0 M6_) rfl rfl rfl ?_
    refine Ex_iload_n dX12_carryAll_99 rfl rfl ?_
    refine Ex_aload_n dX12_carryAll_100 rfl rfl ?_
    refine Ex_aload_n dX12_carryAll_101 rfl rfl ?_
    refine Ex_getf dX12_carryAll_102 rfl (ma0 M6_) rfl rfl rfl ?_
    refine Ex_iload_n dX12_carryAll_105 rfl rfl ?_
    refine Ex_iald12 (c := c) dX12_carryAll_106 rfl (ma4 M6_) rfl (by omega) ?_
    refine Ex_inv 2 dX12_carryAll_107 rfl rfl (Or.inl rfl) rfl rfl rfl rfl (ma0 M6_) rfl rfl rfl (Ex_post (x12_carryG15 (p := 2 + 5 * c + 3) M6_ hB (by rw [e3 _ (by decide), e2 _ (by decide), e1 _ (by decide)]; exact h25) (by rw [t3, t2, t1, h24]; omega) (by omega)) ?_)
    rintro _ h7_ ⟨rfl, ⟨g4_, M7_, t4, e4⟩, f7_⟩
    refine Ex_iast12 (c := c) dX12_carryAll_110 rfl (ma4 M7_) rfl (by omega) (by omega) ?_
    refine mg4 M7_ ?_
    intro h8_ M8_ f8_
    refine Ex_aload_n dX12_carryAll_111 rfl rfl ?_
    refine Ex_getf dX12_carryAll_112 rfl (ma0 M8_) rfl rfl rfl ?_
    refine Ex_iload_n dX12_carryAll_115 rfl rfl ?_
    refine Ex_aload_n dX12_carryAll_116 rfl rfl ?_
    refine Ex_aload_n dX12_carryAll_117 rfl rfl ?_
    refine Ex_getf dX12_carryAll_118 rfl (ma0 M8_) rfl rfl rfl ?_
    refine Ex_iload_n dX12_carryAll_121 rfl rfl ?_
    refine Ex_iald12 (c := c) dX12_carryAll_122 rfl (ma5 M8_) rfl (by omega) ?_
    refine Ex_inv 2 dX12_carryAll_123 rfl rfl (Or.inl rfl) rfl rfl rfl rfl (ma0 M8_) rfl rfl rfl (Ex_post (x12_carryG15 (p := 2 + 5 * c + 4) M8_ hB (by rw [e4 _ (by decide), e3 _ (by decide), e2 _ (by decide), e1 _ (by decide)]; exact h25) (by rw [t4, t3, t2, t1, h24]; omega) (by omega)) ?_)
    rintro _ h9_ ⟨rfl, ⟨g5_, M9_, t5, e5⟩, f9_⟩
    refine Ex_iast12 (c := c) dX12_carryAll_126 rfl (ma5 M9_) rfl (by omega) (by omega) ?_
    refine mg5 M9_ ?_
    intro h10_ M10_ f10_
    refine Ex_iinc (L2 := [_, _, _, _]) dX12_carryAll_127 rfl rfl rfl ?_
    refine Ex_goto (t := 41) dX12_carryAll_130 rfl ?_
    refine Ex_post (ih (c + 1) g5_ _ _ _ _ _ h10_ (by omega) M10_ (by rw [e5 _ (by decide), e4 _ (by decide), e3 _ (by decide), e2 _ (by decide), e1 _ (by decide)]; exact h25) (by rw [t5, t4, t3, t2, t1, h24]; omega) hu.st (fun k k1 k2 => by rw [e5 _ k1, e4 _ k1, e3 _ k1, e2 _ k1, e1 _ k1]; exact hg0 k k1 k2)) ?_
    rintro r1 h1 ⟨rfl, y1, y2⟩
    exact ⟨rfl, y1, (f1_.trans (f2_.trans (f3_.trans (f4_.trans (f5_.trans (f6_.trans (f7_.trans (f8_.trans (f9_.trans f10_))))))))).trans y2⟩
theorem x12_allG15 {E : am_E} {d : Nat} {h : Hp} {m : Nat} {g K F T S C : Nat → Int} {ρ : Nat → Nat → Int} {kp : Value}  (M : MAt h m g K F T S C ρ kp) (hB : E.2 ≤ m)  : Ex E (d + 1) mX12_carryAll 0 [.ref m, .ref (m + 15), .int (i32 0), .retAddr 0] [] h (fun r1 h1 => r1 = none ∧ (∃ g2 K2 F2 T2 S2 C2, MAt h1 m g2 K2 F2 T2 S2 C2 ρ (.ref (m + 15)) ∧ upk (ρ 15) K2 F2 T2 S2 C2 6 ∧ (g2 0 = ρ 15 0 ∧ g2 6 = ρ 15 1) ∧ ∀ k, k ≠ 24 → k ≠ 25 → k ≠ 0 → k ≠ 6 → g2 k = g k) ∧ Fr h h1 m (m + 23)) := by
  refine Ex_aload_n dX12_carryAll_0 rfl rfl ?_
  refine Ex_aload_n dX12_carryAll_1 rfl rfl ?_
  refine Ex_putf (fs2 := (mcell m g (.ref (m + 15))).2) dX12_carryAll_2 rfl (ma0 M) rfl rfl rfl rfl rfl (by omega) rfl ?_
  refine mgk (kp2 := .ref (m + 15)) M ?_
  intro h1_ M1_ f1_
  refine Ex_aload_n dX12_carryAll_5 rfl rfl ?_
  refine Ex_iload_n dX12_carryAll_6 rfl rfl ?_
  refine Ex_put12 (k0 := 25) (v := 0) dX12_carryAll_7 rfl (ma0 M1_) rfl rfl rfl rfl rfl (by omega) rfl ?_
  refine mg0 M1_ ?_
  intro h2_ M2_ f2_
  refine Ex_aload_n dX12_carryAll_10 rfl rfl ?_
  refine Ex_iconst dX12_carryAll_11 rfl ?_
  refine Ex_put12 (k0 := 24) (v := 0) dX12_carryAll_12 rfl (ma0 M2_) rfl rfl rfl rfl rfl (by omega) rfl ?_
  refine mg0 M2_ ?_
  intro h3_ M3_ f3_
  refine Ex_aload_n dX12_carryAll_15 rfl rfl ?_
  refine Ex_aload_n dX12_carryAll_16 rfl rfl ?_
  refine Ex_aload_n dX12_carryAll_17 rfl rfl ?_
  refine Ex_getf dX12_carryAll_18 rfl (ma0 M3_) rfl rfl rfl ?_
  rw [show (fu (fu g 25 0) 24 0) 0 = g 0 from rfl]
  refine Ex_inv 2 dX12_carryAll_21 rfl rfl (Or.inl rfl) rfl rfl rfl rfl (ma0 M3_) rfl rfl rfl (Ex_post (x12_carryG15 (p := 0) M3_ hB rfl rfl (by omega)) ?_)
  rintro _ h4_ ⟨rfl, ⟨g1_, M4_, t1, e1⟩, f4_⟩
  refine Ex_put12 (k0 := 0) (v := (ρ 15 0)) dX12_carryAll_24 rfl (ma0 M4_) rfl rfl rfl rfl rfl (by omega) rfl ?_
  refine mg0 M4_ ?_
  intro h5_ M5_ f5_
  refine Ex_aload_n dX12_carryAll_27 rfl rfl ?_
  refine Ex_aload_n dX12_carryAll_28 rfl rfl ?_
  refine Ex_aload_n dX12_carryAll_29 rfl rfl ?_
  refine Ex_getf dX12_carryAll_30 rfl (ma0 M5_) rfl rfl rfl ?_
  rw [show (fu g1_ 0 (ρ 15 0)) 6 = g1_ 6 from rfl]
  refine Ex_inv 2 dX12_carryAll_33 rfl rfl (Or.inl rfl) rfl rfl rfl rfl (ma0 M5_) rfl rfl rfl (Ex_post (x12_carryG15 (p := 1) M5_ hB (by rw [show (fu g1_ 0 (ρ 15 0)) 25 = g1_ 25 from rfl, e1 _ (by decide)]; rfl) (by rw [show (fu g1_ 0 (ρ 15 0)) 24 = g1_ 24 from rfl, t1]; rfl) (by omega)) ?_)
  rintro _ h6_ ⟨rfl, ⟨g2_, M6_, t2, e2⟩, f6_⟩
  refine Ex_put12 (k0 := 6) (v := (ρ 15 1)) dX12_carryAll_36 rfl (ma0 M6_) rfl rfl rfl rfl rfl (by omega) rfl ?_
  refine mg0 M6_ ?_
  intro h7_ M7_ f7_
  refine Ex_iconst dX12_carryAll_39 rfl ?_
  refine Ex_istore_n (L2 := [_, _, _, _]) dX12_carryAll_40 rfl rfl rfl ?_
  refine Ex_post (x12_allG15_l (g0 := fu g2_ 6 (ρ 15 1)) hB 6 0 _ _ _ _ _ _ h7_ (by omega) M7_ ?_ ?_ (fun i hi => absurd hi (by omega)) (fun k k1 k2 => rfl)) ?_
  · show g2_ 25 = 0
    rw [e2 _ (by decide)]
    show g1_ 25 = 0
    rw [e1 _ (by decide)]
    rfl
  · show g2_ 24 = 2
    rw [t2]
    show g1_ 24 + 1 = 2
    rw [t1]
    rfl
  · rintro r1 h1 ⟨rfl, ⟨g9, K2, F2, T2, S2, C2, M9, u9, e9⟩, y2⟩
    refine ⟨rfl, ⟨g9, K2, F2, T2, S2, C2, M9, u9, ⟨?_, ?_⟩, fun k k1 k2 k3 k4 => ?_⟩, (f1_.trans (f2_.trans (f3_.trans (f4_.trans (f5_.trans (f6_.trans f7_)))))).trans y2⟩
    · rw [e9 _ (by decide) (by decide)]
      show g2_ 0 = _
      rw [e2 _ (by decide)]
      rfl
    · rw [e9 _ (by decide) (by decide)]
      rfl
    · rw [e9 _ k1 k2, fu_ne k4, e2 _ k1, fu_ne k3, e1 _ k1, fu_ne k1, fu_ne k2]
theorem x12_allG16_l {E : am_E} {d m : Nat} {g0 : Nat → Int} {ρ : Nat → Nat → Int} (hB : E.2 ≤ m) : ∀ (k c : Nat) (g K F T S C : Nat → Int) (h : Hp), c + k = 6 → MAt h m g K F T S C ρ (.ref (m + 16)) → g 25 = 0 → g 24 = ((2 + 5 * c : Nat) : Int) → upk (ρ 16) K F T S C c → (∀ k, k ≠ 24 → k ≠ 25 → g k = g0 k) → Ex E (d + 1) mX12_carryAll 41 [.ref m, .ref (m + 16), .int (i32 0), .int (i32 (c : Int))] [] h (fun r1 h1 => r1 = none ∧ (∃ g2 K2 F2 T2 S2 C2, MAt h1 m g2 K2 F2 T2 S2 C2 ρ (.ref (m + 16)) ∧ upk (ρ 16) K2 F2 T2 S2 C2 6 ∧ ∀ k, k ≠ 24 → k ≠ 25 → g2 k = g0 k) ∧ Fr h h1 m (m + 23)) := by
  intro k
  induction k with
  | zero =>
    intro c g K F T S C h hk M h25 h24 hu hg0
    refine Ex_iload_n dX12_carryAll_41 rfl rfl ?_
    refine Ex_bipush dX12_carryAll_42 rfl (by decide) ?_
    refine Ex_icmp_ge (t := 133) dX12_carryAll_44 rfl rfl (by omega) (fun c44 => ?_) (fun c44 => absurd c44 (by omega))
    refine Ex_vret dX12_carryAll_133 rfl ?_
    obtain rfl : c = 6 := by omega
    exact ⟨rfl, ⟨g, K, F, T, S, C, M, hu, hg0⟩, Fr.rf _ _ _⟩
  | succ k ih =>
    intro c g K F T S C h hk M h25 h24 hu hg0
    refine Ex_iload_n dX12_carryAll_41 rfl rfl ?_
    refine Ex_bipush dX12_carryAll_42 rfl (by decide) ?_
    refine Ex_icmp_ge (t := 133) dX12_carryAll_44 rfl rfl (by omega) (fun c44 => absurd c44 (by omega)) (fun c44 => ?_)
    refine Ex_aload_n dX12_carryAll_47 rfl rfl ?_
    refine Ex_getf dX12_carryAll_48 rfl (ma0 M) rfl rfl rfl ?_
    refine Ex_iload_n dX12_carryAll_51 rfl rfl ?_
    refine Ex_aload_n dX12_carryAll_52 rfl rfl ?_
    refine Ex_aload_n dX12_carryAll_53 rfl rfl ?_
    refine Ex_getf dX12_carryAll_54 rfl (ma0 M) rfl rfl rfl ?_
    refine Ex_iload_n dX12_carryAll_57 rfl rfl ?_
    refine Ex_iald12 (c := c) dX12_carryAll_58 rfl (ma1 M) rfl (by omega) ?_
    refine Ex_inv 2 dX12_carryAll_59 rfl rfl (Or.inl rfl) rfl rfl rfl rfl (ma0 M) rfl rfl rfl (Ex_post (x12_carryG16 (p := 2 + 5 * c + 0) M hB h25 (by rw [h24]; rfl) (by omega)) ?_)
    rintro _ h1_ ⟨rfl, ⟨g1_, M1_, t1, e1⟩, f1_⟩
    refine Ex_iast12 (c := c) dX12_carryAll_62 rfl (ma1 M1_) rfl (by omega) (by omega) ?_
    refine mg1 M1_ ?_
    intro h2_ M2_ f2_
    refine Ex_aload_n dX12_carryAll_63 rfl rfl ?_
    refine Ex_getf dX12_carryAll_64 rfl (ma0 M2_) rfl rfl rfl ?_
    refine Ex_iload_n dX12_carryAll_67 rfl rfl ?_
    refine Ex_aload_n dX12_carryAll_68 rfl rfl ?_
    refine Ex_aload_n dX12_carryAll_69 rfl rfl ?_
    refine Ex_getf dX12_carryAll_70 rfl (ma0 M2_) rfl rfl rfl ?_
    refine Ex_iload_n dX12_carryAll_73 rfl rfl ?_
    refine Ex_iald12 (c := c) dX12_carryAll_74 rfl (ma2 M2_) rfl (by omega) ?_
    refine Ex_inv 2 dX12_carryAll_75 rfl rfl (Or.inl rfl) rfl rfl rfl rfl (ma0 M2_) rfl rfl rfl (Ex_post (x12_carryG16 (p := 2 + 5 * c + 1) M2_ hB (by rw [e1 _ (by decide)]; exact h25) (by rw [t1, h24]; omega) (by omega)) ?_)
    rintro _ h3_ ⟨rfl, ⟨g2_, M3_, t2, e2⟩, f3_⟩
    refine Ex_iast12 (c := c) dX12_carryAll_78 rfl (ma2 M3_) rfl (by omega) (by omega) ?_
    refine mg2 M3_ ?_
    intro h4_ M4_ f4_
    refine Ex_aload_n dX12_carryAll_79 rfl rfl ?_
    refine Ex_getf dX12_carryAll_80 rfl (ma0 M4_) rfl rfl rfl ?_
    refine Ex_iload_n dX12_carryAll_83 rfl rfl ?_
    refine Ex_aload_n dX12_carryAll_84 rfl rfl ?_
    refine Ex_aload_n dX12_carryAll_85 rfl rfl ?_
    refine Ex_getf dX12_carryAll_86 rfl (ma0 M4_) rfl rfl rfl ?_
    refine Ex_iload_n dX12_carryAll_89 rfl rfl ?_
    refine Ex_iald12 (c := c) dX12_carryAll_90 rfl (ma3 M4_) rfl (by omega) ?_
    refine Ex_inv 2 dX12_carryAll_91 rfl rfl (Or.inl rfl) rfl rfl rfl rfl (ma0 M4_) rfl rfl rfl (Ex_post (x12_carryG16 (p := 2 + 5 * c + 2) M4_ hB (by rw [e2 _ (by decide), e1 _ (by decide)]; exact h25) (by rw [t2, t1, h24]; omega) (by omega)) ?_)
    rintro _ h5_ ⟨rfl, ⟨g3_, M5_, t3, e3⟩, f5_⟩
    refine Ex_iast12 (c := c) dX12_carryAll_94 rfl (ma3 M5_) rfl (by omega) (by omega) ?_
    refine mg3 M5_ ?_
    intro h6_ M6_ f6_
    refine Ex_aload_n dX12_carryAll_95 rfl rfl ?_
    refine Ex_getf dX12_carryAll_96 rfl (ma0 M6_) rfl rfl rfl ?_
    refine Ex_iload_n dX12_carryAll_99 rfl rfl ?_
    refine Ex_aload_n dX12_carryAll_100 rfl rfl ?_
    refine Ex_aload_n dX12_carryAll_101 rfl rfl ?_
    refine Ex_getf dX12_carryAll_102 rfl (ma0 M6_) rfl rfl rfl ?_
    refine Ex_iload_n dX12_carryAll_105 rfl rfl ?_
    refine Ex_iald12 (c := c) dX12_carryAll_106 rfl (ma4 M6_) rfl (by omega) ?_
    refine Ex_inv 2 dX12_carryAll_107 rfl rfl (Or.inl rfl) rfl rfl rfl rfl (ma0 M6_) rfl rfl rfl (Ex_post (x12_carryG16 (p := 2 + 5 * c + 3) M6_ hB (by rw [e3 _ (by decide), e2 _ (by decide), e1 _ (by decide)]; exact h25) (by rw [t3, t2, t1, h24]; omega) (by omega)) ?_)
    rintro _ h7_ ⟨rfl, ⟨g4_, M7_, t4, e4⟩, f7_⟩
    refine Ex_iast12 (c := c) dX12_carryAll_110 rfl (ma4 M7_) rfl (by omega) (by omega) ?_
    refine mg4 M7_ ?_
    intro h8_ M8_ f8_
    refine Ex_aload_n dX12_carryAll_111 rfl rfl ?_
    refine Ex_getf dX12_carryAll_112 rfl (ma0 M8_) rfl rfl rfl ?_
    refine Ex_iload_n dX12_carryAll_115 rfl rfl ?_
    refine Ex_aload_n dX12_carryAll_116 rfl rfl ?_
    refine Ex_aload_n dX12_carryAll_117 rfl rfl ?_
    refine Ex_getf dX12_carryAll_118 rfl (ma0 M8_) rfl rfl rfl ?_
    refine Ex_iload_n dX12_carryAll_121 rfl rfl ?_
    refine Ex_iald12 (c := c) dX12_carryAll_122 rfl (ma5 M8_) rfl (by omega) ?_
    refine Ex_inv 2 dX12_carryAll_123 rfl rfl (Or.inl rfl) rfl rfl rfl rfl (ma0 M8_) rfl rfl rfl (Ex_post (x12_carryG16 (p := 2 + 5 * c + 4) M8_ hB (by rw [e4 _ (by decide), e3 _ (by decide), e2 _ (by decide), e1 _ (by decide)]; exact h25) (by rw [t4, t3, t2, t1, h24]; omega) (by omega)) ?_)
    rintro _ h9_ ⟨rfl, ⟨g5_, M9_, t5, e5⟩, f9_⟩
    refine Ex_iast12 (c := c) dX12_carryAll_126 rfl (ma5 M9_) rfl (by omega) (by omega) ?_
    refine mg5 M9_ ?_
    intro h10_ M10_ f10_
    refine Ex_iinc (L2 := [_, _, _, _]) dX12_carryAll_127 rfl rfl rfl ?_
    refine Ex_goto (t := 41) dX12_carryAll_130 rfl ?_
    refine Ex_post (ih (c + 1) g5_ _ _ _ _ _ h10_ (by omega) M10_ (by rw [e5 _ (by decide), e4 _ (by decide), e3 _ (by decide), e2 _ (by decide), e1 _ (by decide)]; exact h25) (by rw [t5, t4, t3, t2, t1, h24]; omega) hu.st (fun k k1 k2 => by rw [e5 _ k1, e4 _ k1, e3 _ k1, e2 _ k1, e1 _ k1]; exact hg0 k k1 k2)) ?_
    rintro r1 h1 ⟨rfl, y1, y2⟩
    exact ⟨rfl, y1, (f1_.trans (f2_.trans (f3_.trans (f4_.trans (f5_.trans (f6_.trans (f7_.trans (f8_.trans (f9_.trans f10_))))))))).trans y2⟩
theorem x12_allG16 {E : am_E} {d : Nat} {h : Hp} {m : Nat} {g K F T S C : Nat → Int} {ρ : Nat → Nat → Int} {kp : Value}  (M : MAt h m g K F T S C ρ kp) (hB : E.2 ≤ m)  : Ex E (d + 1) mX12_carryAll 0 [.ref m, .ref (m + 16), .int (i32 0), .retAddr 0] [] h (fun r1 h1 => r1 = none ∧ (∃ g2 K2 F2 T2 S2 C2, MAt h1 m g2 K2 F2 T2 S2 C2 ρ (.ref (m + 16)) ∧ upk (ρ 16) K2 F2 T2 S2 C2 6 ∧ (g2 0 = ρ 16 0 ∧ g2 6 = ρ 16 1) ∧ ∀ k, k ≠ 24 → k ≠ 25 → k ≠ 0 → k ≠ 6 → g2 k = g k) ∧ Fr h h1 m (m + 23)) := by
  refine Ex_aload_n dX12_carryAll_0 rfl rfl ?_
  refine Ex_aload_n dX12_carryAll_1 rfl rfl ?_
  refine Ex_putf (fs2 := (mcell m g (.ref (m + 16))).2) dX12_carryAll_2 rfl (ma0 M) rfl rfl rfl rfl rfl (by omega) rfl ?_
  refine mgk (kp2 := .ref (m + 16)) M ?_
  intro h1_ M1_ f1_
  refine Ex_aload_n dX12_carryAll_5 rfl rfl ?_
  refine Ex_iload_n dX12_carryAll_6 rfl rfl ?_
  refine Ex_put12 (k0 := 25) (v := 0) dX12_carryAll_7 rfl (ma0 M1_) rfl rfl rfl rfl rfl (by omega) rfl ?_
  refine mg0 M1_ ?_
  intro h2_ M2_ f2_
  refine Ex_aload_n dX12_carryAll_10 rfl rfl ?_
  refine Ex_iconst dX12_carryAll_11 rfl ?_
  refine Ex_put12 (k0 := 24) (v := 0) dX12_carryAll_12 rfl (ma0 M2_) rfl rfl rfl rfl rfl (by omega) rfl ?_
  refine mg0 M2_ ?_
  intro h3_ M3_ f3_
  refine Ex_aload_n dX12_carryAll_15 rfl rfl ?_
  refine Ex_aload_n dX12_carryAll_16 rfl rfl ?_
  refine Ex_aload_n dX12_carryAll_17 rfl rfl ?_
  refine Ex_getf dX12_carryAll_18 rfl (ma0 M3_) rfl rfl rfl ?_
  rw [show (fu (fu g 25 0) 24 0) 0 = g 0 from rfl]
  refine Ex_inv 2 dX12_carryAll_21 rfl rfl (Or.inl rfl) rfl rfl rfl rfl (ma0 M3_) rfl rfl rfl (Ex_post (x12_carryG16 (p := 0) M3_ hB rfl rfl (by omega)) ?_)
  rintro _ h4_ ⟨rfl, ⟨g1_, M4_, t1, e1⟩, f4_⟩
  refine Ex_put12 (k0 := 0) (v := (ρ 16 0)) dX12_carryAll_24 rfl (ma0 M4_) rfl rfl rfl rfl rfl (by omega) rfl ?_
  refine mg0 M4_ ?_
  intro h5_ M5_ f5_
  refine Ex_aload_n dX12_carryAll_27 rfl rfl ?_
  refine Ex_aload_n dX12_carryAll_28 rfl rfl ?_
  refine Ex_aload_n dX12_carryAll_29 rfl rfl ?_
  refine Ex_getf dX12_carryAll_30 rfl (ma0 M5_) rfl rfl rfl ?_
  rw [show (fu g1_ 0 (ρ 16 0)) 6 = g1_ 6 from rfl]
  refine Ex_inv 2 dX12_carryAll_33 rfl rfl (Or.inl rfl) rfl rfl rfl rfl (ma0 M5_) rfl rfl rfl (Ex_post (x12_carryG16 (p := 1) M5_ hB (by rw [show (fu g1_ 0 (ρ 16 0)) 25 = g1_ 25 from rfl, e1 _ (by decide)]; rfl) (by rw [show (fu g1_ 0 (ρ 16 0)) 24 = g1_ 24 from rfl, t1]; rfl) (by omega)) ?_)
  rintro _ h6_ ⟨rfl, ⟨g2_, M6_, t2, e2⟩, f6_⟩
  refine Ex_put12 (k0 := 6) (v := (ρ 16 1)) dX12_carryAll_36 rfl (ma0 M6_) rfl rfl rfl rfl rfl (by omega) rfl ?_
  refine mg0 M6_ ?_
  intro h7_ M7_ f7_
  refine Ex_iconst dX12_carryAll_39 rfl ?_
  refine Ex_istore_n (L2 := [_, _, _, _]) dX12_carryAll_40 rfl rfl rfl ?_
  refine Ex_post (x12_allG16_l (g0 := fu g2_ 6 (ρ 16 1)) hB 6 0 _ _ _ _ _ _ h7_ (by omega) M7_ ?_ ?_ (fun i hi => absurd hi (by omega)) (fun k k1 k2 => rfl)) ?_
  · show g2_ 25 = 0
    rw [e2 _ (by decide)]
    show g1_ 25 = 0
    rw [e1 _ (by decide)]
    rfl
  · show g2_ 24 = 2
    rw [t2]
    show g1_ 24 + 1 = 2
    rw [t1]
    rfl
  · rintro r1 h1 ⟨rfl, ⟨g9, K2, F2, T2, S2, C2, M9, u9, e9⟩, y2⟩
    refine ⟨rfl, ⟨g9, K2, F2, T2, S2, C2, M9, u9, ⟨?_, ?_⟩, fun k k1 k2 k3 k4 => ?_⟩, (f1_.trans (f2_.trans (f3_.trans (f4_.trans (f5_.trans (f6_.trans f7_)))))).trans y2⟩
    · rw [e9 _ (by decide) (by decide)]
      show g2_ 0 = _
      rw [e2 _ (by decide)]
      rfl
    · rw [e9 _ (by decide) (by decide)]
      rfl
    · rw [e9 _ k1 k2, fu_ne k4, e2 _ k1, fu_ne k3, e1 _ k1, fu_ne k1, fu_ne k2]
theorem x12_allG19_l {E : am_E} {d m : Nat} {g0 : Nat → Int} {ρ : Nat → Nat → Int} (hB : E.2 ≤ m) : ∀ (k c : Nat) (g K F T S C : Nat → Int) (h : Hp), c + k = 6 → MAt h m g K F T S C ρ (.ref (m + 19)) → g 25 = 0 → g 24 = ((2 + 5 * c : Nat) : Int) → upk (ρ 19) K F T S C c → (∀ k, k ≠ 24 → k ≠ 25 → g k = g0 k) → Ex E (d + 1) mX12_carryAll 41 [.ref m, .ref (m + 19), .int (i32 0), .int (i32 (c : Int))] [] h (fun r1 h1 => r1 = none ∧ (∃ g2 K2 F2 T2 S2 C2, MAt h1 m g2 K2 F2 T2 S2 C2 ρ (.ref (m + 19)) ∧ upk (ρ 19) K2 F2 T2 S2 C2 6 ∧ ∀ k, k ≠ 24 → k ≠ 25 → g2 k = g0 k) ∧ Fr h h1 m (m + 23)) := by
  intro k
  induction k with
  | zero =>
    intro c g K F T S C h hk M h25 h24 hu hg0
    refine Ex_iload_n dX12_carryAll_41 rfl rfl ?_
    refine Ex_bipush dX12_carryAll_42 rfl (by decide) ?_
    refine Ex_icmp_ge (t := 133) dX12_carryAll_44 rfl rfl (by omega) (fun c44 => ?_) (fun c44 => absurd c44 (by omega))
    refine Ex_vret dX12_carryAll_133 rfl ?_
    obtain rfl : c = 6 := by omega
    exact ⟨rfl, ⟨g, K, F, T, S, C, M, hu, hg0⟩, Fr.rf _ _ _⟩
  | succ k ih =>
    intro c g K F T S C h hk M h25 h24 hu hg0
    refine Ex_iload_n dX12_carryAll_41 rfl rfl ?_
    refine Ex_bipush dX12_carryAll_42 rfl (by decide) ?_
    refine Ex_icmp_ge (t := 133) dX12_carryAll_44 rfl rfl (by omega) (fun c44 => absurd c44 (by omega)) (fun c44 => ?_)
    refine Ex_aload_n dX12_carryAll_47 rfl rfl ?_
    refine Ex_getf dX12_carryAll_48 rfl (ma0 M) rfl rfl rfl ?_
    refine Ex_iload_n dX12_carryAll_51 rfl rfl ?_
    refine Ex_aload_n dX12_carryAll_52 rfl rfl ?_
    refine Ex_aload_n dX12_carryAll_53 rfl rfl ?_
    refine Ex_getf dX12_carryAll_54 rfl (ma0 M) rfl rfl rfl ?_
    refine Ex_iload_n dX12_carryAll_57 rfl rfl ?_
    refine Ex_iald12 (c := c) dX12_carryAll_58 rfl (ma1 M) rfl (by omega) ?_
    refine Ex_inv 2 dX12_carryAll_59 rfl rfl (Or.inl rfl) rfl rfl rfl rfl (ma0 M) rfl rfl rfl (Ex_post (x12_carryG19 (p := 2 + 5 * c + 0) M hB h25 (by rw [h24]; rfl) (by omega)) ?_)
    rintro _ h1_ ⟨rfl, ⟨g1_, M1_, t1, e1⟩, f1_⟩
    refine Ex_iast12 (c := c) dX12_carryAll_62 rfl (ma1 M1_) rfl (by omega) (by omega) ?_
    refine mg1 M1_ ?_
    intro h2_ M2_ f2_
    refine Ex_aload_n dX12_carryAll_63 rfl rfl ?_
    refine Ex_getf dX12_carryAll_64 rfl (ma0 M2_) rfl rfl rfl ?_
    refine Ex_iload_n dX12_carryAll_67 rfl rfl ?_
    refine Ex_aload_n dX12_carryAll_68 rfl rfl ?_
    refine Ex_aload_n dX12_carryAll_69 rfl rfl ?_
    refine Ex_getf dX12_carryAll_70 rfl (ma0 M2_) rfl rfl rfl ?_
    refine Ex_iload_n dX12_carryAll_73 rfl rfl ?_
    refine Ex_iald12 (c := c) dX12_carryAll_74 rfl (ma2 M2_) rfl (by omega) ?_
    refine Ex_inv 2 dX12_carryAll_75 rfl rfl (Or.inl rfl) rfl rfl rfl rfl (ma0 M2_) rfl rfl rfl (Ex_post (x12_carryG19 (p := 2 + 5 * c + 1) M2_ hB (by rw [e1 _ (by decide)]; exact h25) (by rw [t1, h24]; omega) (by omega)) ?_)
    rintro _ h3_ ⟨rfl, ⟨g2_, M3_, t2, e2⟩, f3_⟩
    refine Ex_iast12 (c := c) dX12_carryAll_78 rfl (ma2 M3_) rfl (by omega) (by omega) ?_
    refine mg2 M3_ ?_
    intro h4_ M4_ f4_
    refine Ex_aload_n dX12_carryAll_79 rfl rfl ?_
    refine Ex_getf dX12_carryAll_80 rfl (ma0 M4_) rfl rfl rfl ?_
    refine Ex_iload_n dX12_carryAll_83 rfl rfl ?_
    refine Ex_aload_n dX12_carryAll_84 rfl rfl ?_
    refine Ex_aload_n dX12_carryAll_85 rfl rfl ?_
    refine Ex_getf dX12_carryAll_86 rfl (ma0 M4_) rfl rfl rfl ?_
    refine Ex_iload_n dX12_carryAll_89 rfl rfl ?_
    refine Ex_iald12 (c := c) dX12_carryAll_90 rfl (ma3 M4_) rfl (by omega) ?_
    refine Ex_inv 2 dX12_carryAll_91 rfl rfl (Or.inl rfl) rfl rfl rfl rfl (ma0 M4_) rfl rfl rfl (Ex_post (x12_carryG19 (p := 2 + 5 * c + 2) M4_ hB (by rw [e2 _ (by decide), e1 _ (by decide)]; exact h25) (by rw [t2, t1, h24]; omega) (by omega)) ?_)
    rintro _ h5_ ⟨rfl, ⟨g3_, M5_, t3, e3⟩, f5_⟩
    refine Ex_iast12 (c := c) dX12_carryAll_94 rfl (ma3 M5_) rfl (by omega) (by omega) ?_
    refine mg3 M5_ ?_
    intro h6_ M6_ f6_
    refine Ex_aload_n dX12_carryAll_95 rfl rfl ?_
    refine Ex_getf dX12_carryAll_96 rfl (ma0 M6_) rfl rfl rfl ?_
    refine Ex_iload_n dX12_carryAll_99 rfl rfl ?_
    refine Ex_aload_n dX12_carryAll_100 rfl rfl ?_
    refine Ex_aload_n dX12_carryAll_101 rfl rfl ?_
    refine Ex_getf dX12_carryAll_102 rfl (ma0 M6_) rfl rfl rfl ?_
    refine Ex_iload_n dX12_carryAll_105 rfl rfl ?_
    refine Ex_iald12 (c := c) dX12_carryAll_106 rfl (ma4 M6_) rfl (by omega) ?_
    refine Ex_inv 2 dX12_carryAll_107 rfl rfl (Or.inl rfl) rfl rfl rfl rfl (ma0 M6_) rfl rfl rfl (Ex_post (x12_carryG19 (p := 2 + 5 * c + 3) M6_ hB (by rw [e3 _ (by decide), e2 _ (by decide), e1 _ (by decide)]; exact h25) (by rw [t3, t2, t1, h24]; omega) (by omega)) ?_)
    rintro _ h7_ ⟨rfl, ⟨g4_, M7_, t4, e4⟩, f7_⟩
    refine Ex_iast12 (c := c) dX12_carryAll_110 rfl (ma4 M7_) rfl (by omega) (by omega) ?_
    refine mg4 M7_ ?_
    intro h8_ M8_ f8_
    refine Ex_aload_n dX12_carryAll_111 rfl rfl ?_
    refine Ex_getf dX12_carryAll_112 rfl (ma0 M8_) rfl rfl rfl ?_
    refine Ex_iload_n dX12_carryAll_115 rfl rfl ?_
    refine Ex_aload_n dX12_carryAll_116 rfl rfl ?_
    refine Ex_aload_n dX12_carryAll_117 rfl rfl ?_
    refine Ex_getf dX12_carryAll_118 rfl (ma0 M8_) rfl rfl rfl ?_
    refine Ex_iload_n dX12_carryAll_121 rfl rfl ?_
    refine Ex_iald12 (c := c) dX12_carryAll_122 rfl (ma5 M8_) rfl (by omega) ?_
    refine Ex_inv 2 dX12_carryAll_123 rfl rfl (Or.inl rfl) rfl rfl rfl rfl (ma0 M8_) rfl rfl rfl (Ex_post (x12_carryG19 (p := 2 + 5 * c + 4) M8_ hB (by rw [e4 _ (by decide), e3 _ (by decide), e2 _ (by decide), e1 _ (by decide)]; exact h25) (by rw [t4, t3, t2, t1, h24]; omega) (by omega)) ?_)
    rintro _ h9_ ⟨rfl, ⟨g5_, M9_, t5, e5⟩, f9_⟩
    refine Ex_iast12 (c := c) dX12_carryAll_126 rfl (ma5 M9_) rfl (by omega) (by omega) ?_
    refine mg5 M9_ ?_
    intro h10_ M10_ f10_
    refine Ex_iinc (L2 := [_, _, _, _]) dX12_carryAll_127 rfl rfl rfl ?_
    refine Ex_goto (t := 41) dX12_carryAll_130 rfl ?_
    refine Ex_post (ih (c + 1) g5_ _ _ _ _ _ h10_ (by omega) M10_ (by rw [e5 _ (by decide), e4 _ (by decide), e3 _ (by decide), e2 _ (by decide), e1 _ (by decide)]; exact h25) (by rw [t5, t4, t3, t2, t1, h24]; omega) hu.st (fun k k1 k2 => by rw [e5 _ k1, e4 _ k1, e3 _ k1, e2 _ k1, e1 _ k1]; exact hg0 k k1 k2)) ?_
    rintro r1 h1 ⟨rfl, y1, y2⟩
    exact ⟨rfl, y1, (f1_.trans (f2_.trans (f3_.trans (f4_.trans (f5_.trans (f6_.trans (f7_.trans (f8_.trans (f9_.trans f10_))))))))).trans y2⟩
theorem x12_allG19 {E : am_E} {d : Nat} {h : Hp} {m : Nat} {g K F T S C : Nat → Int} {ρ : Nat → Nat → Int} {kp : Value}  (M : MAt h m g K F T S C ρ kp) (hB : E.2 ≤ m)  : Ex E (d + 1) mX12_carryAll 0 [.ref m, .ref (m + 19), .int (i32 0), .retAddr 0] [] h (fun r1 h1 => r1 = none ∧ (∃ g2 K2 F2 T2 S2 C2, MAt h1 m g2 K2 F2 T2 S2 C2 ρ (.ref (m + 19)) ∧ upk (ρ 19) K2 F2 T2 S2 C2 6 ∧ (g2 0 = ρ 19 0 ∧ g2 6 = ρ 19 1) ∧ ∀ k, k ≠ 24 → k ≠ 25 → k ≠ 0 → k ≠ 6 → g2 k = g k) ∧ Fr h h1 m (m + 23)) := by
  refine Ex_aload_n dX12_carryAll_0 rfl rfl ?_
  refine Ex_aload_n dX12_carryAll_1 rfl rfl ?_
  refine Ex_putf (fs2 := (mcell m g (.ref (m + 19))).2) dX12_carryAll_2 rfl (ma0 M) rfl rfl rfl rfl rfl (by omega) rfl ?_
  refine mgk (kp2 := .ref (m + 19)) M ?_
  intro h1_ M1_ f1_
  refine Ex_aload_n dX12_carryAll_5 rfl rfl ?_
  refine Ex_iload_n dX12_carryAll_6 rfl rfl ?_
  refine Ex_put12 (k0 := 25) (v := 0) dX12_carryAll_7 rfl (ma0 M1_) rfl rfl rfl rfl rfl (by omega) rfl ?_
  refine mg0 M1_ ?_
  intro h2_ M2_ f2_
  refine Ex_aload_n dX12_carryAll_10 rfl rfl ?_
  refine Ex_iconst dX12_carryAll_11 rfl ?_
  refine Ex_put12 (k0 := 24) (v := 0) dX12_carryAll_12 rfl (ma0 M2_) rfl rfl rfl rfl rfl (by omega) rfl ?_
  refine mg0 M2_ ?_
  intro h3_ M3_ f3_
  refine Ex_aload_n dX12_carryAll_15 rfl rfl ?_
  refine Ex_aload_n dX12_carryAll_16 rfl rfl ?_
  refine Ex_aload_n dX12_carryAll_17 rfl rfl ?_
  refine Ex_getf dX12_carryAll_18 rfl (ma0 M3_) rfl rfl rfl ?_
  rw [show (fu (fu g 25 0) 24 0) 0 = g 0 from rfl]
  refine Ex_inv 2 dX12_carryAll_21 rfl rfl (Or.inl rfl) rfl rfl rfl rfl (ma0 M3_) rfl rfl rfl (Ex_post (x12_carryG19 (p := 0) M3_ hB rfl rfl (by omega)) ?_)
  rintro _ h4_ ⟨rfl, ⟨g1_, M4_, t1, e1⟩, f4_⟩
  refine Ex_put12 (k0 := 0) (v := (ρ 19 0)) dX12_carryAll_24 rfl (ma0 M4_) rfl rfl rfl rfl rfl (by omega) rfl ?_
  refine mg0 M4_ ?_
  intro h5_ M5_ f5_
  refine Ex_aload_n dX12_carryAll_27 rfl rfl ?_
  refine Ex_aload_n dX12_carryAll_28 rfl rfl ?_
  refine Ex_aload_n dX12_carryAll_29 rfl rfl ?_
  refine Ex_getf dX12_carryAll_30 rfl (ma0 M5_) rfl rfl rfl ?_
  rw [show (fu g1_ 0 (ρ 19 0)) 6 = g1_ 6 from rfl]
  refine Ex_inv 2 dX12_carryAll_33 rfl rfl (Or.inl rfl) rfl rfl rfl rfl (ma0 M5_) rfl rfl rfl (Ex_post (x12_carryG19 (p := 1) M5_ hB (by rw [show (fu g1_ 0 (ρ 19 0)) 25 = g1_ 25 from rfl, e1 _ (by decide)]; rfl) (by rw [show (fu g1_ 0 (ρ 19 0)) 24 = g1_ 24 from rfl, t1]; rfl) (by omega)) ?_)
  rintro _ h6_ ⟨rfl, ⟨g2_, M6_, t2, e2⟩, f6_⟩
  refine Ex_put12 (k0 := 6) (v := (ρ 19 1)) dX12_carryAll_36 rfl (ma0 M6_) rfl rfl rfl rfl rfl (by omega) rfl ?_
  refine mg0 M6_ ?_
  intro h7_ M7_ f7_
  refine Ex_iconst dX12_carryAll_39 rfl ?_
  refine Ex_istore_n (L2 := [_, _, _, _]) dX12_carryAll_40 rfl rfl rfl ?_
  refine Ex_post (x12_allG19_l (g0 := fu g2_ 6 (ρ 19 1)) hB 6 0 _ _ _ _ _ _ h7_ (by omega) M7_ ?_ ?_ (fun i hi => absurd hi (by omega)) (fun k k1 k2 => rfl)) ?_
  · show g2_ 25 = 0
    rw [e2 _ (by decide)]
    show g1_ 25 = 0
    rw [e1 _ (by decide)]
    rfl
  · show g2_ 24 = 2
    rw [t2]
    show g1_ 24 + 1 = 2
    rw [t1]
    rfl
  · rintro r1 h1 ⟨rfl, ⟨g9, K2, F2, T2, S2, C2, M9, u9, e9⟩, y2⟩
    refine ⟨rfl, ⟨g9, K2, F2, T2, S2, C2, M9, u9, ⟨?_, ?_⟩, fun k k1 k2 k3 k4 => ?_⟩, (f1_.trans (f2_.trans (f3_.trans (f4_.trans (f5_.trans (f6_.trans f7_)))))).trans y2⟩
    · rw [e9 _ (by decide) (by decide)]
      show g2_ 0 = _
      rw [e2 _ (by decide)]
      rfl
    · rw [e9 _ (by decide) (by decide)]
      rfl
    · rw [e9 _ k1 k2, fu_ne k4, e2 _ k1, fu_ne k3, e1 _ k1, fu_ne k1, fu_ne k2]
theorem pk_back {f K2 F2 T2 S2 C2 : Nat → Int} {X : RS} (hf : ∀ i, i < 32 → f i = pk X i) (u : upk f K2 F2 T2 S2 C2 6) : ∀ i, i < 6 → K2 i = X.2.2.1 i ∧ F2 i = X.2.2.2.1 i ∧ T2 i = X.2.2.2.2.1 i ∧ S2 i = X.2.2.2.2.2.1 i ∧ C2 i = X.2.2.2.2.2.2 i := by
  intro i hi
  obtain ⟨u0, u1, u2, u3, u4⟩ := u i hi
  obtain ⟨q0, q1, q2, q3, q4⟩ := pk_c X i
  rw [u0, u1, u2, u3, u4, hf _ (by omega), hf _ (by omega), hf _ (by omega), hf _ (by omega), hf _ (by omega)]
  exact ⟨q0, q1, q2, q3, q4⟩
/-- the reference's state: the bath X, is there an image, the shelves and the image's row -/
def MI (h : Hp) (m : Nat) (X : RS) (hi : Int) (σ : Nat → Nat → Int) : Prop := ∃ (g : Nat → Int) (ρ : Nat → Nat → Int) (kp : Value), MAt h m g X.2.2.1 X.2.2.2.1 X.2.2.2.2.1 X.2.2.2.2.2.1 X.2.2.2.2.2.2 ρ kp ∧ g 0 = (X.1 : Int) ∧ g 6 = X.2.1 ∧ g 23 = hi ∧ ∀ j, (6 ≤ j ∧ j ≤ 11) ∨ j = 16 → ρ j = σ j
theorem x12_open {E : am_E} {d : Nat} {h : Hp} {m n : Nat} {mm : Int} {g K F T S C : Nat → Int} {ρ : Nat → Nat → Int} {kp : Value}  (M : MAt h m g K F T S C ρ kp) (hn : g 0 = (n : Int)) (h6 : g 6 = mm) (hB : E.2 ≤ m)  : Ex E (d + 2) mX12_open 0 [.ref m] [] h (fun r1 h1 => r1 = none ∧ (∃ g2 f2, MAt h1 m g2 K F T S C (fuR ρ 15 f2) (.ref (m + 15)) ∧ (∀ i, i < 32 → f2 i = pk (n, mm, K, F, T, S, C) i) ∧ ∀ k, k ≠ 24 → k ≠ 25 → g2 k = g k) ∧ Fr h h1 m (m + 23)) := by
  refine Ex_aload_n dX12_open_0 rfl rfl ?_
  refine Ex_aload_n dX12_open_1 rfl rfl ?_
  refine Ex_getf dX12_open_2 rfl (ma0 M) rfl rfl rfl ?_
  refine Ex_iconst dX12_open_5 rfl ?_
  refine Ex_inv 2 dX12_open_6 rfl rfl (Or.inl rfl) rfl rfl rfl rfl (ma0 M) rfl rfl rfl (Ex_post (x12_allT15 M hn h6 hB) ?_)
  rintro _ h9 ⟨rfl, y1, y2⟩
  refine Ex_vret dX12_open_9 rfl ?_
  exact ⟨rfl, y1, y2⟩
theorem x12_close {E : am_E} {d : Nat} {h : Hp} {m n : Nat} {mm : Int} {g K F T S C K2 F2 T2 S2 C2 : Nat → Int} {ρ : Nat → Nat → Int} {kp : Value}  (M : MAt h m g K2 F2 T2 S2 C2 ρ kp) (hf : ∀ i, i < 32 → ρ 15 i = pk (n, mm, K, F, T, S, C) i) (hB : E.2 ≤ m)  : Ex E (d + 2) mX12_close 0 [.ref m] [] h (fun r1 h1 => r1 = none ∧ (∃ g2, MAt h1 m g2 K F T S C ρ (.ref (m + 15)) ∧ (g2 0 = (n : Int) ∧ g2 6 = mm) ∧ ∀ k, k ≠ 24 → k ≠ 25 → k ≠ 0 → k ≠ 6 → g2 k = g k) ∧ Fr h h1 m (m + 23)) := by
  refine Ex_aload_n dX12_close_0 rfl rfl ?_
  refine Ex_aload_n dX12_close_1 rfl rfl ?_
  refine Ex_getf dX12_close_2 rfl (ma0 M) rfl rfl rfl ?_
  refine Ex_iconst dX12_close_5 rfl ?_
  refine Ex_inv 2 dX12_close_6 rfl rfl (Or.inl rfl) rfl rfl rfl rfl (ma0 M) rfl rfl rfl (Ex_post (x12_allG15 M hB) ?_)
  rintro _ h9 ⟨rfl, ⟨g2, K3, F3, T3, S3, C3, y1, y2, y3, y4⟩, y5⟩
  refine Ex_vret dX12_close_9 rfl ?_
  exact ⟨rfl, ⟨g2, y1.cg (pk_back hf y2), ⟨by rw [y3.1, hf 0 (by omega)]; rfl, by rw [y3.2, hf 1 (by omega)]; rfl⟩, y4⟩, y5⟩
theorem x12_image {E : am_E} {d : Nat} {h : Hp} {m n : Nat} {mm hi : Int} {K F T S C : Nat → Int} {σ : Nat → Nat → Int}  (I : MI h m (n, mm, K, F, T, S, C) hi σ) (hB : E.2 ≤ m)  : Ex E (d + 2) mX12_image 0 [.ref m] [] h (fun r1 h1 => r1 = some (.int (i32 mm)) ∧ (∃ f2, (∀ i, i < 32 → f2 i = pk (n, mm, K, F, T, S, C) i) ∧ MI h1 m (n, mm, K, F, T, S, C) 1 (fuR σ 16 f2)) ∧ Fr h h1 m (m + 23)) := by
  obtain ⟨g, ρ, kp, M, hn, h6, h23, hσ⟩ := I
  have M : MAt h m g K F T S C ρ kp := M
  have hn : g 0 = (n : Int) := hn
  have h6 : g 6 = mm := h6
  refine Ex_aload_n dX12_image_0 rfl rfl ?_
  refine Ex_iconst dX12_image_1 rfl ?_
  refine Ex_put12 (k0 := 13) (v := 0) dX12_image_2 rfl (ma0 M) rfl rfl rfl rfl rfl (by omega) rfl ?_
  refine mg0 M ?_
  intro h1_ M1_ f1_
  refine Ex_aload_n dX12_image_5 rfl rfl ?_
  refine Ex_iconst dX12_image_6 rfl ?_
  refine Ex_put12 (k0 := 23) (v := 1) dX12_image_7 rfl (ma0 M1_) rfl rfl rfl rfl rfl (by omega) rfl ?_
  refine mg0 M1_ ?_
  intro h2_ M2_ f2_
  refine Ex_aload_n dX12_image_10 rfl rfl ?_
  refine Ex_aload_n dX12_image_11 rfl rfl ?_
  refine Ex_getf dX12_image_12 rfl (ma0 M2_) rfl rfl rfl ?_
  refine Ex_iconst dX12_image_15 rfl ?_
  refine Ex_inv 2 dX12_image_16 rfl rfl (Or.inl rfl) rfl rfl rfl rfl (ma0 M2_) rfl rfl rfl (Ex_post (x12_allT16 M2_ hn h6 hB) ?_)
  rintro _ h3_ ⟨rfl, ⟨g2_, f2, M3_, y2, y3⟩, f3_⟩
  refine Ex_aload_n dX12_image_19 rfl rfl ?_
  refine Ex_getf dX12_image_20 rfl (ma0 M3_) rfl rfl rfl ?_
  rw [show g2_ 6 = mm by rw [y3 _ (by decide) (by decide)]; exact h6]
  refine Ex_iret dX12_image_23 rfl rfl ?_
  refine ⟨rfl, ⟨f2, y2, g2_, _, _, M3_, ?_, ?_, ?_, fun j hj => ?_⟩, (f1_.trans (f2_.trans f3_))⟩
  · rw [y3 _ (by decide) (by decide)]; exact hn
  · rw [y3 _ (by decide) (by decide)]; exact h6
  · rw [y3 _ (by decide) (by decide)]; rfl
  · by_cases e : j = 16
    · subst e; rw [fuR_at, fuR_at]
    · rw [fuR_ne e, fuR_ne e]; exact hσ j hj
theorem x12_restore0 {E : am_E} {d : Nat} {h : Hp} {m n : Nat} {mm hi : Int} {K F T S C : Nat → Int} {σ : Nat → Nat → Int}  (I : MI h m (n, mm, K, F, T, S, C) hi σ) (hB : E.2 ≤ m) (h0 : hi = 0)  : Ex E (d + 2) mX12_restore 0 [.ref m] [] h (fun r1 h1 => r1 = some (.int (i32 (-3))) ∧ MI h1 m (n, mm, K, F, T, S, C) hi σ ∧ Fr h h1 m (m + 23)) := by
  obtain ⟨g, ρ, kp, M, hn, h6, h23, hσ⟩ := I
  have M : MAt h m g K F T S C ρ kp := M
  have hn : g 0 = (n : Int) := hn
  have h6 : g 6 = mm := h6
  refine Ex_aload_n dX12_restore_0 rfl rfl ?_
  refine Ex_iconst dX12_restore_1 rfl ?_
  refine Ex_put12 (k0 := 13) (v := 0) dX12_restore_2 rfl (ma0 M) rfl rfl rfl rfl rfl (by omega) rfl ?_
  refine mg0 M ?_
  intro h1_ M1_ f1_
  refine Ex_aload_n dX12_restore_5 rfl rfl ?_
  refine Ex_getf dX12_restore_6 rfl (ma0 M1_) rfl rfl rfl ?_
  rw [show (fu g 13 0) 23 = g 23 from rfl]
  refine Ex_if_ne (t := 15) dX12_restore_9 rfl rfl (by omega) (fun c9 => absurd c9 (by omega)) (fun c9 => ?_)
  refine Ex_bipush dX12_restore_12 rfl (by decide) ?_
  refine Ex_iret dX12_restore_14 rfl rfl ?_
  exact ⟨rfl, ⟨_, _, _, M1_, hn, h6, h23, hσ⟩, f1_⟩
theorem x12_restore1 {E : am_E} {d : Nat} {h : Hp} {m n : Nat} {mm hi : Int} {K F T S C : Nat → Int} {σ : Nat → Nat → Int} {Y : RS}  (I : MI h m (n, mm, K, F, T, S, C) hi σ) (hB : E.2 ≤ m) (h0 : hi = 1) (hY : ∀ i, i < 32 → σ 16 i = pk Y i)  : Ex E (d + 2) mX12_restore 0 [.ref m] [] h (fun r1 h1 => r1 = some (.int (i32 Y.2.1)) ∧ MI h1 m Y hi σ ∧ Fr h h1 m (m + 23)) := by
  obtain ⟨g, ρ, kp, M, hn, h6, h23, hσ⟩ := I
  have M : MAt h m g K F T S C ρ kp := M
  have hn : g 0 = (n : Int) := hn
  have h6 : g 6 = mm := h6
  refine Ex_aload_n dX12_restore_0 rfl rfl ?_
  refine Ex_iconst dX12_restore_1 rfl ?_
  refine Ex_put12 (k0 := 13) (v := 0) dX12_restore_2 rfl (ma0 M) rfl rfl rfl rfl rfl (by omega) rfl ?_
  refine mg0 M ?_
  intro h1_ M1_ f1_
  refine Ex_aload_n dX12_restore_5 rfl rfl ?_
  refine Ex_getf dX12_restore_6 rfl (ma0 M1_) rfl rfl rfl ?_
  rw [show (fu g 13 0) 23 = g 23 from rfl]
  refine Ex_if_ne (t := 15) dX12_restore_9 rfl rfl (by omega) (fun c9 => ?_) (fun c9 => absurd c9 (by omega))
  refine Ex_aload_n dX12_restore_15 rfl rfl ?_
  refine Ex_aload_n dX12_restore_16 rfl rfl ?_
  refine Ex_getf dX12_restore_17 rfl (ma0 M1_) rfl rfl rfl ?_
  refine Ex_iconst dX12_restore_20 rfl ?_
  refine Ex_inv 2 dX12_restore_21 rfl rfl (Or.inl rfl) rfl rfl rfl rfl (ma0 M1_) rfl rfl rfl (Ex_post (x12_allG16 M1_ hB) ?_)
  rintro _ h2_ ⟨rfl, ⟨g2_, K3, F3, T3, S3, C3, M2_, y2, y3, y4⟩, f2_⟩
  refine Ex_aload_n dX12_restore_24 rfl rfl ?_
  refine Ex_getf dX12_restore_25 rfl (ma0 M2_) rfl rfl rfl ?_
  have e16 : ρ 16 = σ 16 := hσ 16 (Or.inr rfl)
  rw [e16] at y2 y3
  rw [show g2_ 6 = Y.2.1 by rw [y3.2, hY 1 (by omega)]; rfl]
  refine Ex_iret dX12_restore_28 rfl rfl ?_
  refine ⟨rfl, ⟨g2_, _, _, M2_.cg (pk_back hY y2), ?_, ?_, ?_, hσ⟩, (f1_.trans f2_)⟩
  · rw [y3.1, hY 0 (by omega)]; rfl
  · rw [y3.2, hY 1 (by omega)]; rfl
  · rw [y4 _ (by decide) (by decide) (by decide) (by decide)]; exact h23
