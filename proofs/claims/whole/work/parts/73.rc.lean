/-! the reference: what is carried to a row of numbers and back (by program: wip/whole/spec_rc.py) -/
theorem fuR_fuR (ρ : Nat → Nat → Int) (j : Nat) (f f2 : Nat → Int) : fuR (fuR ρ j f) j f2 = fuR ρ j f2 := by
  funext a
  unfold fuR
  split <;> rfl
theorem fuR_same (ρ : Nat → Nat → Int) (j : Nat) : fuR ρ j (ρ j) = ρ := by
  funext a
  unfold fuR
  split
  · rename_i e; rw [e]
  · rfl
theorem fuR_at (ρ : Nat → Nat → Int) (j : Nat) (f : Nat → Int) : fuR ρ j f j = f := by unfold fuR; rw [if_pos rfl]
theorem fuR_ne {ρ : Nat → Nat → Int} {i j : Nat} {f : Nat → Int} (h : j ≠ i) : fuR ρ i f j = ρ j := by unfold fuR; rw [if_neg h]
section
variable {E : am_E} {d pc q : Nat} {Mt : Mth} {L S0 : List Value} {Q : Option Value → Hp → Prop} {h : Hp} {m : Nat} {g K F T S C : Nat → Int} {ρ : Nat → Nat → Int} {kp : Value}
theorem mgk {kp2 : Value} (M : MAt h m g K F T S C ρ kp) (k : ∀ h2, MAt h2 m g K F T S C ρ kp2 → Fr h h2 m (m + 23) → Ex E d Mt pc L S0 h2 Q) : Ex E d Mt pc L S0 (am_put h m (mcell m g kp2)) Q := by
  obtain ⟨a0, a1, a2, a3, a4, a5, a6, a7, a8, a9, a10, a11, a12, a13, a14, a15, a16, a17, a18, a19, a20, a21, a22⟩ := M
  exact k _ ⟨am_pg1 _ _ _, (am_pg2 (by omega)).trans a1, (am_pg2 (by omega)).trans a2, (am_pg2 (by omega)).trans a3, (am_pg2 (by omega)).trans a4, (am_pg2 (by omega)).trans a5, (am_pg2 (by omega)).trans a6, (am_pg2 (by omega)).trans a7, (am_pg2 (by omega)).trans a8, (am_pg2 (by omega)).trans a9, (am_pg2 (by omega)).trans a10, (am_pg2 (by omega)).trans a11, (am_pg2 (by omega)).trans a12, (am_pg2 (by omega)).trans a13, (am_pg2 (by omega)).trans a14, (am_pg2 (by omega)).trans a15, (am_pg2 (by omega)).trans a16, (am_pg2 (by omega)).trans a17, (am_pg2 (by omega)).trans a18, (am_pg2 (by omega)).trans a19, (am_pg2 (by omega)).trans a20, (am_pg2 (by omega)).trans a21, (am_pg2 (by omega)).trans a22⟩ (Fr.put _ (by omega))
theorem MAt.cg {K2 F2 T2 S2 C2 : Nat → Int} (M : MAt h m g K F T S C ρ kp) (e : ∀ i, i < 6 → K i = K2 i ∧ F i = F2 i ∧ T i = T2 i ∧ S i = S2 i ∧ C i = C2 i) : MAt h m g K2 F2 T2 S2 C2 ρ kp := by
  obtain ⟨a0, a1, a2, a3, a4, a5, a6, a7, a8, a9, a10, a11, a12, a13, a14, a15, a16, a17, a18, a19, a20, a21, a22⟩ := M
  refine ⟨a0, ?_, ?_, ?_, ?_, ?_, a6, a7, a8, a9, a10, a11, a12, a13, a14, a15, a16, a17, a18, a19, a20, a21, a22⟩
  · rw [← fa_cg (fun i hi => (e i hi).1)]; exact a1
  · rw [← fa_cg (fun i hi => (e i hi).2.1)]; exact a2
  · rw [← fa_cg (fun i hi => (e i hi).2.2.1)]; exact a3
  · rw [← fa_cg (fun i hi => (e i hi).2.2.2.1)]; exact a4
  · rw [← fa_cg (fun i hi => (e i hi).2.2.2.2)]; exact a5
end
/-- a place of the row that all is carried to -/
def pk (X : RS) (i : Nat) : Int := if i = 0 then (X.1 : Int) else if i = 1 then X.2.1 else if (i - 2) % 5 = 0 then X.2.2.1 ((i - 2) / 5) else if (i - 2) % 5 = 1 then X.2.2.2.1 ((i - 2) / 5) else if (i - 2) % 5 = 2 then X.2.2.2.2.1 ((i - 2) / 5) else if (i - 2) % 5 = 3 then X.2.2.2.2.2.1 ((i - 2) / 5) else X.2.2.2.2.2.2 ((i - 2) / 5)
theorem pk_c (X : RS) (c : Nat) : pk X (2 + 5 * c) = X.2.2.1 c ∧ pk X (2 + 5 * c + 1) = X.2.2.2.1 c ∧ pk X (2 + 5 * c + 2) = X.2.2.2.2.1 c ∧ pk X (2 + 5 * c + 3) = X.2.2.2.2.2.1 c ∧ pk X (2 + 5 * c + 4) = X.2.2.2.2.2.2 c := by
  have h0 : (2 + 5 * c - 2) % 5 = 0 ∧ (2 + 5 * c - 2) / 5 = c := by omega
  have h1 : (2 + 5 * c + 1 - 2) % 5 = 1 ∧ (2 + 5 * c + 1 - 2) / 5 = c := by omega
  have h2 : (2 + 5 * c + 2 - 2) % 5 = 2 ∧ (2 + 5 * c + 2 - 2) / 5 = c := by omega
  have h3 : (2 + 5 * c + 3 - 2) % 5 = 3 ∧ (2 + 5 * c + 3 - 2) / 5 = c := by omega
  have h4 : (2 + 5 * c + 4 - 2) % 5 = 4 ∧ (2 + 5 * c + 4 - 2) / 5 = c := by omega
  unfold pk
  refine ⟨?_, ?_, ?_, ?_, ?_⟩
  · rw [if_neg (by omega), if_neg (by omega), if_pos h0.1, h0.2]
  · rw [if_neg (by omega), if_neg (by omega), if_neg (by omega), if_pos h1.1, h1.2]
  · rw [if_neg (by omega), if_neg (by omega), if_neg (by omega), if_neg (by omega), if_pos h2.1, h2.2]
  · rw [if_neg (by omega), if_neg (by omega), if_neg (by omega), if_neg (by omega), if_neg (by omega), if_pos h3.1, h3.2]
  · rw [if_neg (by omega), if_neg (by omega), if_neg (by omega), if_neg (by omega), if_neg (by omega), if_neg (by omega), h4.2]
theorem x12_carryT15 {E : am_E} {d : Nat} {h : Hp} {m p : Nat} {g K F T S C f : Nat → Int} {ρ : Nat → Nat → Int} {v : Int}  (M : MAt h m g K F T S C (fuR ρ 15 f) (.ref (m + 15))) (hB : E.2 ≤ m) (h25 : g 25 = 1) (hp : g 24 = (p : Int)) (hp2 : p < 32)  : Ex E d mX12_carry 0 [.ref m, .int (i32 v)] [] h (fun r1 h1 => r1 = some (.int (i32 v)) ∧ (∃ g2, MAt h1 m g2 K F T S C (fuR ρ 15 (fu f p v)) (.ref (m + 15)) ∧ g2 24 = g 24 + 1 ∧ ∀ k, k ≠ 24 → g2 k = g k) ∧ Fr h h1 m (m + 23)) := by
  refine Ex_aload_n dX12_carry_0 rfl rfl ?_
  refine Ex_getf dX12_carry_1 rfl (ma0 M) rfl rfl rfl ?_
  refine Ex_if_eq (t := 17) dX12_carry_4 rfl rfl (by omega) (fun c4 => absurd c4 (by omega)) (fun c4 => ?_)
  refine Ex_aload_n dX12_carry_7 rfl rfl ?_
  refine Ex_getf dX12_carry_8 rfl (ma0 M) rfl rfl rfl ?_
  refine Ex_aload_n dX12_carry_11 rfl rfl ?_
  refine Ex_getf dX12_carry_12 rfl (ma0 M) rfl rfl rfl ?_
  refine Ex_iload_n dX12_carry_15 rfl rfl ?_
  refine Ex_iast12 (c := p) dX12_carry_16 rfl (ma15 M) hp (by omega) (by omega) ?_
  refine mg15 M ?_
  intro h1_ M1_ f1_
  refine Ex_aload_n dX12_carry_17 rfl rfl ?_
  refine Ex_dup dX12_carry_18 rfl rfl ?_
  refine Ex_getf dX12_carry_19 rfl (ma0 M1_) rfl rfl rfl ?_
  refine Ex_iconst dX12_carry_22 rfl ?_
  refine Ex_iadd dX12_carry_23 rfl ?_
  refine Ex_put12 (k0 := 24) (v := (g 24 + 1)) dX12_carry_24 rfl (ma0 M1_) rfl rfl rfl rfl rfl (by omega) rfl ?_
  refine mg0 M1_ ?_
  intro h2_ M2_ f2_
  refine Ex_aload_n dX12_carry_27 rfl rfl ?_
  refine Ex_getf dX12_carry_28 rfl (ma0 M2_) rfl rfl rfl ?_
  refine Ex_aload_n dX12_carry_31 rfl rfl ?_
  refine Ex_getf dX12_carry_32 rfl (ma0 M2_) rfl rfl rfl ?_
  rw [show (fu g 24 (g 24 + 1)) 24 = (g 24 + 1) from rfl]
  refine Ex_iconst dX12_carry_35 rfl ?_
  refine Ex_isub dX12_carry_36 rfl ?_
  refine Ex_iald12 (c := p) dX12_carry_37 rfl (ma15 M2_) (by omega) (by omega) ?_
  rw [show (fuR (fuR ρ 15 f) 15 (fu (fuR ρ 15 f 15) p v)) 15 p = v from fu_at f p v]
  refine Ex_iret dX12_carry_38 rfl rfl ?_
  rw [fuR_fuR] at M2_
  exact ⟨rfl, ⟨_, M2_, rfl, fun k hk => fu_ne hk⟩, (f1_.trans f2_)⟩
theorem x12_carryG15 {E : am_E} {d : Nat} {h : Hp} {m p : Nat} {g K F T S C : Nat → Int} {ρ : Nat → Nat → Int} {v : Int}  (M : MAt h m g K F T S C ρ (.ref (m + 15))) (hB : E.2 ≤ m) (h25 : g 25 = 0) (hp : g 24 = (p : Int)) (hp2 : p < 32)  : Ex E d mX12_carry 0 [.ref m, .int (i32 v)] [] h (fun r1 h1 => r1 = some (.int (i32 (ρ 15 p))) ∧ (∃ g2, MAt h1 m g2 K F T S C ρ (.ref (m + 15)) ∧ g2 24 = g 24 + 1 ∧ ∀ k, k ≠ 24 → g2 k = g k) ∧ Fr h h1 m (m + 23)) := by
  refine Ex_aload_n dX12_carry_0 rfl rfl ?_
  refine Ex_getf dX12_carry_1 rfl (ma0 M) rfl rfl rfl ?_
  refine Ex_if_eq (t := 17) dX12_carry_4 rfl rfl (by omega) (fun c4 => ?_) (fun c4 => absurd c4 (by omega))
  refine Ex_aload_n dX12_carry_17 rfl rfl ?_
  refine Ex_dup dX12_carry_18 rfl rfl ?_
  refine Ex_getf dX12_carry_19 rfl (ma0 M) rfl rfl rfl ?_
  refine Ex_iconst dX12_carry_22 rfl ?_
  refine Ex_iadd dX12_carry_23 rfl ?_
  refine Ex_put12 (k0 := 24) (v := (g 24 + 1)) dX12_carry_24 rfl (ma0 M) rfl rfl rfl rfl rfl (by omega) rfl ?_
  refine mg0 M ?_
  intro h1_ M1_ f1_
  refine Ex_aload_n dX12_carry_27 rfl rfl ?_
  refine Ex_getf dX12_carry_28 rfl (ma0 M1_) rfl rfl rfl ?_
  refine Ex_aload_n dX12_carry_31 rfl rfl ?_
  refine Ex_getf dX12_carry_32 rfl (ma0 M1_) rfl rfl rfl ?_
  rw [show (fu g 24 (g 24 + 1)) 24 = (g 24 + 1) from rfl]
  refine Ex_iconst dX12_carry_35 rfl ?_
  refine Ex_isub dX12_carry_36 rfl ?_
  refine Ex_iald12 (c := p) dX12_carry_37 rfl (ma15 M1_) (by omega) (by omega) ?_
  refine Ex_iret dX12_carry_38 rfl rfl ?_
  exact ⟨rfl, ⟨_, M1_, rfl, fun k hk => fu_ne hk⟩, f1_⟩
theorem x12_allT15_l {E : am_E} {d m : Nat} {g0 K F T S C : Nat → Int} {ρ : Nat → Nat → Int} {X : RS} (hB : E.2 ≤ m) (hX : X.2.2 = (K, F, T, S, C)) : ∀ (k c : Nat) (g f : Nat → Int) (h : Hp), c + k = 6 → MAt h m g K F T S C (fuR ρ 15 f) (.ref (m + 15)) → g 25 = 1 → g 24 = ((2 + 5 * c : Nat) : Int) → (∀ i, i < 2 + 5 * c → f i = pk X i) → (∀ k, k ≠ 24 → k ≠ 25 → g k = g0 k) → Ex E (d + 1) mX12_carryAll 41 [.ref m, .ref (m + 15), .int (i32 1), .int (i32 (c : Int))] [] h (fun r1 h1 => r1 = none ∧ (∃ g2 f2, MAt h1 m g2 K F T S C (fuR ρ 15 f2) (.ref (m + 15)) ∧ (∀ i, i < 32 → f2 i = pk X i) ∧ ∀ k, k ≠ 24 → k ≠ 25 → g2 k = g0 k) ∧ Fr h h1 m (m + 23)) := by
  intro k
  induction k with
  | zero =>
    intro c g f h hk M h25 h24 hf hg0
    refine Ex_iload_n dX12_carryAll_41 rfl rfl ?_
    refine Ex_bipush dX12_carryAll_42 rfl (by decide) ?_
    refine Ex_icmp_ge (t := 133) dX12_carryAll_44 rfl rfl (by omega) (fun c44 => ?_) (fun c44 => absurd c44 (by omega))
    refine Ex_vret dX12_carryAll_133 rfl ?_
    exact ⟨rfl, ⟨g, f, M, fun i hi => hf i (by omega), hg0⟩, Fr.rf _ _ _⟩
  | succ k ih =>
    intro c g f h hk M h25 h24 hf hg0
    refine Ex_iload_n dX12_carryAll_41 rfl rfl ?_
    refine Ex_bipush dX12_carryAll_42 rfl (by decide) ?_
    refine Ex_icmp_ge (t := 133) dX12_carryAll_44 rfl rfl (by omega) (fun c44 => absurd c44 (by omega)) (fun c44 => ?_)
    refine Ex_aload_n dX12_carryAll_47 rfl rfl ?_
    refine Ex_getf dX12_carryAll_48 rfl (ma0 M) rfl rfl rfl ?_
    refine Ex_iload_n dX12_carryAll_51 rfl rfl ?_
    refine Ex_aload_n dX12_carryAll_52 rfl rfl ?_
    refine Ex_aload_n dX12_carryAll_53 rfl rfl ?_
    refine Ex_getf dX12_carryAll_54 rfl (ma0 M) rfl rfl rfl ?_
    refine Ex_iload_n dX12_carryAll_57 rfl rfl ?_
    refine Ex_iald12 (c := c) dX12_carryAll_58 rfl (ma1 M) rfl (by omega) ?_
    refine Ex_inv 2 dX12_carryAll_59 rfl rfl (Or.inl rfl) rfl rfl rfl rfl (ma0 M) rfl rfl rfl (Ex_post (x12_carryT15 (p := 2 + 5 * c + 0) M hB h25 (by rw [h24]; rfl) (by omega)) ?_)
    rintro _ h1_ ⟨rfl, ⟨g1_, M1_, t1, e1⟩, f1_⟩
    refine Ex_iast12 (c := c) dX12_carryAll_62 rfl (ma1 M1_) rfl (by omega) (by omega) ?_
    refine mg1 M1_ ?_
    intro h2_ M2_ f2_
    rw [fu_same] at M2_
    refine Ex_aload_n dX12_carryAll_63 rfl rfl ?_
    refine Ex_getf dX12_carryAll_64 rfl (ma0 M2_) rfl rfl rfl ?_
    refine Ex_iload_n dX12_carryAll_67 rfl rfl ?_
    refine Ex_aload_n dX12_carryAll_68 rfl rfl ?_
    refine Ex_aload_n dX12_carryAll_69 rfl rfl ?_
    refine Ex_getf dX12_carryAll_70 rfl (ma0 M2_) rfl rfl rfl ?_
    refine Ex_iload_n dX12_carryAll_73 rfl rfl ?_
    refine Ex_iald12 (c := c) dX12_carryAll_74 rfl (ma2 M2_) rfl (by omega) ?_
    refine Ex_inv 2 dX12_carryAll_75 rfl rfl (Or.inl rfl) rfl rfl rfl rfl (ma0 M2_) rfl rfl rfl (Ex_post (x12_carryT15 (p := 2 + 5 * c + 1) M2_ hB (by rw [e1 _ (by decide)]; exact h25) (by rw [t1, h24]; omega) (by omega)) ?_)
    rintro _ h3_ ⟨rfl, ⟨g2_, M3_, t2, e2⟩, f3_⟩
    refine Ex_iast12 (c := c) dX12_carryAll_78 rfl (ma2 M3_) rfl (by omega) (by omega) ?_
    refine mg2 M3_ ?_
    intro h4_ M4_ f4_
    rw [fu_same] at M4_
    refine Ex_aload_n dX12_carryAll_79 rfl rfl ?_
    refine Ex_getf dX12_carryAll_80 rfl (ma0 M4_) rfl rfl rfl ?_
    refine Ex_iload_n dX12_carryAll_83 rfl rfl ?_
    refine Ex_aload_n dX12_carryAll_84 rfl rfl ?_
    refine Ex_aload_n dX12_carryAll_85 rfl rfl ?_
    refine Ex_getf dX12_carryAll_86 rfl (ma0 M4_) rfl rfl rfl ?_
    refine Ex_iload_n dX12_carryAll_89 rfl rfl ?_
    refine Ex_iald12 (c := c) dX12_carryAll_90 rfl (ma3 M4_) rfl (by omega) ?_
    refine Ex_inv 2 dX12_carryAll_91 rfl rfl (Or.inl rfl) rfl rfl rfl rfl (ma0 M4_) rfl rfl rfl (Ex_post (x12_carryT15 (p := 2 + 5 * c + 2) M4_ hB (by rw [e2 _ (by decide), e1 _ (by decide)]; exact h25) (by rw [t2, t1, h24]; omega) (by omega)) ?_)
    rintro _ h5_ ⟨rfl, ⟨g3_, M5_, t3, e3⟩, f5_⟩
    refine Ex_iast12 (c := c) dX12_carryAll_94 rfl (ma3 M5_) rfl (by omega) (by omega) ?_
    refine mg3 M5_ ?_
    intro h6_ M6_ f6_
    rw [fu_same] at M6_
    refine Ex_aload_n dX12_carryAll_95 rfl rfl ?_
    refine Ex_getf dX12_carryAll_96 rfl (ma0 M6_) rfl rfl rfl ?_
    refine Ex_iload_n dX12_carryAll_99 rfl rfl ?_
    refine Ex_aload_n dX12_carryAll_100 rfl rfl ?_
    refine Ex_aload_n dX12_carryAll_101 rfl rfl ?_
    refine Ex_getf dX12_carryAll_102 rfl (ma0 M6_) rfl rfl rfl ?_
    refine Ex_iload_n dX12_carryAll_105 rfl rfl ?_
    refine Ex_iald12 (c := c) dX12_carryAll_106 rfl (ma4 M6_) rfl (by omega) ?_
    refine Ex_inv 2 dX12_carryAll_107 rfl rfl (Or.inl rfl) rfl rfl rfl rfl (ma0 M6_) rfl rfl rfl (Ex_post (x12_carryT15 (p := 2 + 5 * c + 3) M6_ hB (by rw [e3 _ (by decide), e2 _ (by decide), e1 _ (by decide)]; exact h25) (by rw [t3, t2, t1, h24]; omega) (by omega)) ?_)
    rintro _ h7_ ⟨rfl, ⟨g4_, M7_, t4, e4⟩, f7_⟩
    refine Ex_iast12 (c := c) dX12_carryAll_110 rfl (ma4 M7_) rfl (by omega) (by omega) ?_
    refine mg4 M7_ ?_
    intro h8_ M8_ f8_
    rw [fu_same] at M8_
    refine Ex_aload_n dX12_carryAll_111 rfl rfl ?_
    refine Ex_getf dX12_carryAll_112 rfl (ma0 M8_) rfl rfl rfl ?_
    refine Ex_iload_n dX12_carryAll_115 rfl rfl ?_
    refine Ex_aload_n dX12_carryAll_116 rfl rfl ?_
    refine Ex_aload_n dX12_carryAll_117 rfl rfl ?_
    refine Ex_getf dX12_carryAll_118 rfl (ma0 M8_) rfl rfl rfl ?_
    refine Ex_iload_n dX12_carryAll_121 rfl rfl ?_
    refine Ex_iald12 (c := c) dX12_carryAll_122 rfl (ma5 M8_) rfl (by omega) ?_
    refine Ex_inv 2 dX12_carryAll_123 rfl rfl (Or.inl rfl) rfl rfl rfl rfl (ma0 M8_) rfl rfl rfl (Ex_post (x12_carryT15 (p := 2 + 5 * c + 4) M8_ hB (by rw [e4 _ (by decide), e3 _ (by decide), e2 _ (by decide), e1 _ (by decide)]; exact h25) (by rw [t4, t3, t2, t1, h24]; omega) (by omega)) ?_)
    rintro _ h9_ ⟨rfl, ⟨g5_, M9_, t5, e5⟩, f9_⟩
    refine Ex_iast12 (c := c) dX12_carryAll_126 rfl (ma5 M9_) rfl (by omega) (by omega) ?_
    refine mg5 M9_ ?_
    intro h10_ M10_ f10_
    rw [fu_same] at M10_
    refine Ex_iinc (L2 := [_, _, _, _]) dX12_carryAll_127 rfl rfl rfl ?_
    refine Ex_goto (t := 41) dX12_carryAll_130 rfl ?_
    have hpk := pk_c X c
    rw [hX] at hpk
    obtain ⟨q0, q1, q2, q3, q4⟩ := hpk
    refine Ex_post (ih (c + 1) g5_ _ h10_ (by omega) M10_ (by rw [e5 _ (by decide), e4 _ (by decide), e3 _ (by decide), e2 _ (by decide), e1 _ (by decide)]; exact h25) (by rw [t5, t4, t3, t2, t1, h24]; omega) (fun i hi => ?_) (fun k k1 k2 => by rw [e5 _ k1, e4 _ k1, e3 _ k1, e2 _ k1, e1 _ k1]; exact hg0 k k1 k2)) ?_
    · by_cases z4 : i = 2 + 5 * c + 4
      · rw [z4, fu_at, q4]
      · rw [fu_ne z4]
        by_cases z3 : i = 2 + 5 * c + 3
        · rw [z3, fu_at, q3]
        · rw [fu_ne z3]
          by_cases z2 : i = 2 + 5 * c + 2
          · rw [z2, fu_at, q2]
          · rw [fu_ne z2]
            by_cases z1 : i = 2 + 5 * c + 1
            · rw [z1, fu_at, q1]
            · rw [fu_ne z1]
              by_cases z0 : i = 2 + 5 * c + 0
              · rw [z0, fu_at]; exact q0.symm
              · rw [fu_ne z0]; exact hf i (by omega)
    · rintro r1 h1 ⟨rfl, y1, y2⟩
      exact ⟨rfl, y1, (f1_.trans (f2_.trans (f3_.trans (f4_.trans (f5_.trans (f6_.trans (f7_.trans (f8_.trans (f9_.trans f10_))))))))).trans y2⟩
theorem x12_allT15 {E : am_E} {d : Nat} {h : Hp} {m n : Nat} {mm : Int} {g K F T S C : Nat → Int} {ρ : Nat → Nat → Int} {kp : Value}  (M : MAt h m g K F T S C ρ kp) (hn : g 0 = (n : Int)) (h6 : g 6 = mm) (hB : E.2 ≤ m)  : Ex E (d + 1) mX12_carryAll 0 [.ref m, .ref (m + 15), .int (i32 1), .retAddr 0] [] h (fun r1 h1 => r1 = none ∧ (∃ g2 f2, MAt h1 m g2 K F T S C (fuR ρ 15 f2) (.ref (m + 15)) ∧ (∀ i, i < 32 → f2 i = pk (n, mm, K, F, T, S, C) i) ∧ ∀ k, k ≠ 24 → k ≠ 25 → g2 k = g k) ∧ Fr h h1 m (m + 23)) := by
  refine Ex_aload_n dX12_carryAll_0 rfl rfl ?_
  refine Ex_aload_n dX12_carryAll_1 rfl rfl ?_
  refine Ex_putf (fs2 := (mcell m g (.ref (m + 15))).2) dX12_carryAll_2 rfl (ma0 M) rfl rfl rfl rfl rfl (by omega) rfl ?_
  refine mgk (kp2 := .ref (m + 15)) M ?_
  intro h1_ M1_ f1_
  refine Ex_aload_n dX12_carryAll_5 rfl rfl ?_
  refine Ex_iload_n dX12_carryAll_6 rfl rfl ?_
  refine Ex_put12 (k0 := 25) (v := 1) dX12_carryAll_7 rfl (ma0 M1_) rfl rfl rfl rfl rfl (by omega) rfl ?_
  refine mg0 M1_ ?_
  intro h2_ M2_ f2_
  refine Ex_aload_n dX12_carryAll_10 rfl rfl ?_
  refine Ex_iconst dX12_carryAll_11 rfl ?_
  refine Ex_put12 (k0 := 24) (v := 0) dX12_carryAll_12 rfl (ma0 M2_) rfl rfl rfl rfl rfl (by omega) rfl ?_
  refine mg0 M2_ ?_
  intro h3_ M3_ f3_
  refine Ex_aload_n dX12_carryAll_15 rfl rfl ?_
  refine Ex_aload_n dX12_carryAll_16 rfl rfl ?_
  refine Ex_aload_n dX12_carryAll_17 rfl rfl ?_
  refine Ex_getf dX12_carryAll_18 rfl (ma0 M3_) rfl rfl rfl ?_
  rw [show (fu (fu g 25 1) 24 0) 0 = g 0 from rfl]
  refine Ex_inv 2 dX12_carryAll_21 rfl rfl (Or.inl rfl) rfl rfl rfl rfl (ma0 M3_) rfl rfl rfl (Ex_post (x12_carryT15 (f := ρ 15) (p := 0) (by rw [fuR_same]; exact M3_) hB rfl rfl (by omega)) ?_)
  rintro _ h4_ ⟨rfl, ⟨g1_, M4_, t1, e1⟩, f4_⟩
  rw [hn]
  skip
  refine Ex_put12 (k0 := 0) (v := (n : Int)) dX12_carryAll_24 rfl (ma0 M4_) rfl rfl rfl rfl rfl (by omega) rfl ?_
  refine mg0 M4_ ?_
  intro h5_ M5_ f5_
  refine Ex_aload_n dX12_carryAll_27 rfl rfl ?_
  refine Ex_aload_n dX12_carryAll_28 rfl rfl ?_
  refine Ex_aload_n dX12_carryAll_29 rfl rfl ?_
  refine Ex_getf dX12_carryAll_30 rfl (ma0 M5_) rfl rfl rfl ?_
  rw [show (fu g1_ 0 (n : Int)) 6 = g1_ 6 from rfl]
  rw [show g1_ 6 = mm by rw [e1 _ (by decide)]; exact h6]
  refine Ex_inv 2 dX12_carryAll_33 rfl rfl (Or.inl rfl) rfl rfl rfl rfl (ma0 M5_) rfl rfl rfl (Ex_post (x12_carryT15 (p := 1) M5_ hB (by rw [show (fu g1_ 0 (n : Int)) 25 = g1_ 25 from rfl, e1 _ (by decide)]; rfl) (by rw [show (fu g1_ 0 (n : Int)) 24 = g1_ 24 from rfl, t1]; rfl) (by omega)) ?_)
  rintro _ h6_ ⟨rfl, ⟨g2_, M6_, t2, e2⟩, f6_⟩
  refine Ex_put12 (k0 := 6) (v := mm) dX12_carryAll_36 rfl (ma0 M6_) rfl rfl rfl rfl rfl (by omega) rfl ?_
  refine mg0 M6_ ?_
  intro h7_ M7_ f7_
  refine Ex_iconst dX12_carryAll_39 rfl ?_
  refine Ex_istore_n (L2 := [_, _, _, _]) dX12_carryAll_40 rfl rfl rfl ?_
  refine Ex_post (x12_allT15_l (g0 := g) (X := (n, mm, K, F, T, S, C)) hB rfl 6 0 _ _ h7_ (by omega) M7_ ?_ ?_ (fun i hi => ?_) (fun k k1 k2 => ?_)) ?_
  · show g2_ 25 = 1
    rw [e2 _ (by decide)]
    show g1_ 25 = 1
    rw [e1 _ (by decide)]
    rfl
  · show g2_ 24 = 2
    rw [t2]
    show g1_ 24 + 1 = 2
    rw [t1]
    rfl
  · by_cases z1 : i = 1
    · subst z1; rw [fu_at]; rfl
    · rw [fu_ne z1]
      have z0 : i = 0 := by omega
      subst z0
      rw [fu_at, hn]; rfl
  · by_cases z6 : k = 6
    · subst z6; exact h6.symm
    · rw [fu_ne z6, e2 _ k1]
      by_cases z0 : k = 0
      · subst z0; exact hn.symm
      · rw [fu_ne z0, e1 _ k1]
        rw [fu_ne k1, fu_ne k2]
  · rintro r1 h1 ⟨rfl, y1, y2⟩
    exact ⟨rfl, y1, (f1_.trans (f2_.trans (f3_.trans (f4_.trans (f5_.trans (f6_.trans f7_)))))).trans y2⟩
theorem x12_carryT16 {E : am_E} {d : Nat} {h : Hp} {m p : Nat} {g K F T S C f : Nat → Int} {ρ : Nat → Nat → Int} {v : Int}  (M : MAt h m g K F T S C (fuR ρ 16 f) (.ref (m + 16))) (hB : E.2 ≤ m) (h25 : g 25 = 1) (hp : g 24 = (p : Int)) (hp2 : p < 32)  : Ex E d mX12_carry 0 [.ref m, .int (i32 v)] [] h (fun r1 h1 => r1 = some (.int (i32 v)) ∧ (∃ g2, MAt h1 m g2 K F T S C (fuR ρ 16 (fu f p v)) (.ref (m + 16)) ∧ g2 24 = g 24 + 1 ∧ ∀ k, k ≠ 24 → g2 k = g k) ∧ Fr h h1 m (m + 23)) := by
  refine Ex_aload_n dX12_carry_0 rfl rfl ?_
  refine Ex_getf dX12_carry_1 rfl (ma0 M) rfl rfl rfl ?_
  refine Ex_if_eq (t := 17) dX12_carry_4 rfl rfl (by omega) (fun c4 => absurd c4 (by omega)) (fun c4 => ?_)
  refine Ex_aload_n dX12_carry_7 rfl rfl ?_
  refine Ex_getf dX12_carry_8 rfl (ma0 M) rfl rfl rfl ?_
  refine Ex_aload_n dX12_carry_11 rfl rfl ?_
  refine Ex_getf dX12_carry_12 rfl (ma0 M) rfl rfl rfl ?_
  refine Ex_iload_n dX12_carry_15 rfl rfl ?_
  refine Ex_iast12 (c := p) dX12_carry_16 rfl (ma16 M) hp (by omega) (by omega) ?_
  refine mg16 M ?_
  intro h1_ M1_ f1_
  refine Ex_aload_n dX12_carry_17 rfl rfl ?_
  refine Ex_dup dX12_carry_18 rfl rfl ?_
  refine Ex_getf dX12_carry_19 rfl (ma0 M1_) rfl rfl rfl ?_
  refine Ex_iconst dX12_carry_22 rfl ?_
  refine Ex_iadd dX12_carry_23 rfl ?_
  refine Ex_put12 (k0 := 24) (v := (g 24 + 1)) dX12_carry_24 rfl (ma0 M1_) rfl rfl rfl rfl rfl (by omega) rfl ?_
  refine mg0 M1_ ?_
  intro h2_ M2_ f2_
  refine Ex_aload_n dX12_carry_27 rfl rfl ?_
  refine Ex_getf dX12_carry_28 rfl (ma0 M2_) rfl rfl rfl ?_
  refine Ex_aload_n dX12_carry_31 rfl rfl ?_
  refine Ex_getf dX12_carry_32 rfl (ma0 M2_) rfl rfl rfl ?_
  rw [show (fu g 24 (g 24 + 1)) 24 = (g 24 + 1) from rfl]
  refine Ex_iconst dX12_carry_35 rfl ?_
  refine Ex_isub dX12_carry_36 rfl ?_
  refine Ex_iald12 (c := p) dX12_carry_37 rfl (ma16 M2_) (by omega) (by omega) ?_
  rw [show (fuR (fuR ρ 16 f) 16 (fu (fuR ρ 16 f 16) p v)) 16 p = v from fu_at f p v]
  refine Ex_iret dX12_carry_38 rfl rfl ?_
  rw [fuR_fuR] at M2_
  exact ⟨rfl, ⟨_, M2_, rfl, fun k hk => fu_ne hk⟩, (f1_.trans f2_)⟩
theorem x12_carryG16 {E : am_E} {d : Nat} {h : Hp} {m p : Nat} {g K F T S C : Nat → Int} {ρ : Nat → Nat → Int} {v : Int}  (M : MAt h m g K F T S C ρ (.ref (m + 16))) (hB : E.2 ≤ m) (h25 : g 25 = 0) (hp : g 24 = (p : Int)) (hp2 : p < 32)  : Ex E d mX12_carry 0 [.ref m, .int (i32 v)] [] h (fun r1 h1 => r1 = some (.int (i32 (ρ 16 p))) ∧ (∃ g2, MAt h1 m g2 K F T S C ρ (.ref (m + 16)) ∧ g2 24 = g 24 + 1 ∧ ∀ k, k ≠ 24 → g2 k = g k) ∧ Fr h h1 m (m + 23)) := by
  refine Ex_aload_n dX12_carry_0 rfl rfl ?_
  refine Ex_getf dX12_carry_1 rfl (ma0 M) rfl rfl rfl ?_
  refine Ex_if_eq (t := 17) dX12_carry_4 rfl rfl (by omega) (fun c4 => ?_) (fun c4 => absurd c4 (by omega))
  refine Ex_aload_n dX12_carry_17 rfl rfl ?_
  refine Ex_dup dX12_carry_18 rfl rfl ?_
  refine Ex_getf dX12_carry_19 rfl (ma0 M) rfl rfl rfl ?_
  refine Ex_iconst dX12_carry_22 rfl ?_
  refine Ex_iadd dX12_carry_23 rfl ?_
  refine Ex_put12 (k0 := 24) (v := (g 24 + 1)) dX12_carry_24 rfl (ma0 M) rfl rfl rfl rfl rfl (by omega) rfl ?_
  refine mg0 M ?_
  intro h1_ M1_ f1_
  refine Ex_aload_n dX12_carry_27 rfl rfl ?_
  refine Ex_getf dX12_carry_28 rfl (ma0 M1_) rfl rfl rfl ?_
  refine Ex_aload_n dX12_carry_31 rfl rfl ?_
  refine Ex_getf dX12_carry_32 rfl (ma0 M1_) rfl rfl rfl ?_
  rw [show (fu g 24 (g 24 + 1)) 24 = (g 24 + 1) from rfl]
  refine Ex_iconst dX12_carry_35 rfl ?_
  refine Ex_isub dX12_carry_36 rfl ?_
  refine Ex_iald12 (c := p) dX12_carry_37 rfl (ma16 M1_) (by omega) (by omega) ?_
  refine Ex_iret dX12_carry_38 rfl rfl ?_
  exact ⟨rfl, ⟨_, M1_, rfl, fun k hk => fu_ne hk⟩, f1_⟩
theorem x12_allT16_l {E : am_E} {d m : Nat} {g0 K F T S C : Nat → Int} {ρ : Nat → Nat → Int} {X : RS} (hB : E.2 ≤ m) (hX : X.2.2 = (K, F, T, S, C)) : ∀ (k c : Nat) (g f : Nat → Int) (h : Hp), c + k = 6 → MAt h m g K F T S C (fuR ρ 16 f) (.ref (m + 16)) → g 25 = 1 → g 24 = ((2 + 5 * c : Nat) : Int) → (∀ i, i < 2 + 5 * c → f i = pk X i) → (∀ k, k ≠ 24 → k ≠ 25 → g k = g0 k) → Ex E (d + 1) mX12_carryAll 41 [.ref m, .ref (m + 16), .int (i32 1), .int (i32 (c : Int))] [] h (fun r1 h1 => r1 = none ∧ (∃ g2 f2, MAt h1 m g2 K F T S C (fuR ρ 16 f2) (.ref (m + 16)) ∧ (∀ i, i < 32 → f2 i = pk X i) ∧ ∀ k, k ≠ 24 → k ≠ 25 → g2 k = g0 k) ∧ Fr h h1 m (m + 23)) := by
  intro k
  induction k with
  | zero =>
    intro c g f h hk M h25 h24 hf hg0
    refine Ex_iload_n dX12_carryAll_41 rfl rfl ?_
    refine Ex_bipush dX12_carryAll_42 rfl (by decide) ?_
    refine Ex_icmp_ge (t := 133) dX12_carryAll_44 rfl rfl (by omega) (fun c44 => ?_) (fun c44 => absurd c44 (by omega))
    refine Ex_vret dX12_carryAll_133 rfl ?_
    exact ⟨rfl, ⟨g, f, M, fun i hi => hf i (by omega), hg0⟩, Fr.rf _ _ _⟩
  | succ k ih =>
    intro c g f h hk M h25 h24 hf hg0
    refine Ex_iload_n dX12_carryAll_41 rfl rfl ?_
    refine Ex_bipush dX12_carryAll_42 rfl (by decide) ?_
    refine Ex_icmp_ge (t := 133) dX12_carryAll_44 rfl rfl (by omega) (fun c44 => absurd c44 (by omega)) (fun c44 => ?_)
    refine Ex_aload_n dX12_carryAll_47 rfl rfl ?_
    refine Ex_getf dX12_carryAll_48 rfl (ma0 M) rfl rfl rfl ?_
    refine Ex_iload_n dX12_carryAll_51 rfl rfl ?_
    refine Ex_aload_n dX12_carryAll_52 rfl rfl ?_
    refine Ex_aload_n dX12_carryAll_53 rfl rfl ?_
    refine Ex_getf dX12_carryAll_54 rfl (ma0 M) rfl rfl rfl ?_
    refine Ex_iload_n dX12_carryAll_57 rfl rfl ?_
    refine Ex_iald12 (c := c) dX12_carryAll_58 rfl (ma1 M) rfl (by omega) ?_
    refine Ex_inv 2 dX12_carryAll_59 rfl rfl (Or.inl rfl) rfl rfl rfl rfl (ma0 M) rfl rfl rfl (Ex_post (x12_carryT16 (p := 2 + 5 * c + 0) M hB h25 (by rw [h24]; rfl) (by omega)) ?_)
    rintro _ h1_ ⟨rfl, ⟨g1_, M1_, t1, e1⟩, f1_⟩
    refine Ex_iast12 (c := c) dX12_carryAll_62 rfl (ma1 M1_) rfl (by omega) (by omega) ?_
    refine mg1 M1_ ?_
    intro h2_ M2_ f2_
    rw [fu_same] at M2_
    refine Ex_aload_n dX12_carryAll_63 rfl rfl ?_
    refine Ex_getf dX12_carryAll_64 rfl (ma0 M2_) rfl rfl rfl ?_
    refine Ex_iload_n dX12_carryAll_67 rfl rfl ?_
    refine Ex_aload_n dX12_carryAll_68 rfl rfl ?_
    refine Ex_aload_n dX12_carryAll_69 rfl rfl ?_
    refine Ex_getf dX12_carryAll_70 rfl (ma0 M2_) rfl rfl rfl ?_
    refine Ex_iload_n dX12_carryAll_73 rfl rfl ?_
    refine Ex_iald12 (c := c) dX12_carryAll_74 rfl (ma2 M2_) rfl (by omega) ?_
    refine Ex_inv 2 dX12_carryAll_75 rfl rfl (Or.inl rfl) rfl rfl rfl rfl (ma0 M2_) rfl rfl rfl (Ex_post (x12_carryT16 (p := 2 + 5 * c + 1) M2_ hB (by rw [e1 _ (by decide)]; exact h25) (by rw [t1, h24]; omega) (by omega)) ?_)
    rintro _ h3_ ⟨rfl, ⟨g2_, M3_, t2, e2⟩, f3_⟩
    refine Ex_iast12 (c := c) dX12_carryAll_78 rfl (ma2 M3_) rfl (by omega) (by omega) ?_
    refine mg2 M3_ ?_
    intro h4_ M4_ f4_
    rw [fu_same] at M4_
    refine Ex_aload_n dX12_carryAll_79 rfl rfl ?_
    refine Ex_getf dX12_carryAll_80 rfl (ma0 M4_) rfl rfl rfl ?_
    refine Ex_iload_n dX12_carryAll_83 rfl rfl ?_
    refine Ex_aload_n dX12_carryAll_84 rfl rfl ?_
    refine Ex_aload_n dX12_carryAll_85 rfl rfl ?_
    refine Ex_getf dX12_carryAll_86 rfl (ma0 M4_) rfl rfl rfl ?_
    refine Ex_iload_n dX12_carryAll_89 rfl rfl ?_
    refine Ex_iald12 (c := c) dX12_carryAll_90 rfl (ma3 M4_) rfl (by omega) ?_
    refine Ex_inv 2 dX12_carryAll_91 rfl rfl (Or.inl rfl) rfl rfl rfl rfl (ma0 M4_) rfl rfl rfl (Ex_post (x12_carryT16 (p := 2 + 5 * c + 2) M4_ hB (by rw [e2 _ (by decide), e1 _ (by decide)]; exact h25) (by rw [t2, t1, h24]; omega) (by omega)) ?_)
    rintro _ h5_ ⟨rfl, ⟨g3_, M5_, t3, e3⟩, f5_⟩
    refine Ex_iast12 (c := c) dX12_carryAll_94 rfl (ma3 M5_) rfl (by omega) (by omega) ?_
    refine mg3 M5_ ?_
    intro h6_ M6_ f6_
    rw [fu_same] at M6_
    refine Ex_aload_n dX12_carryAll_95 rfl rfl ?_
    refine Ex_getf dX12_carryAll_96 rfl (ma0 M6_) rfl rfl rfl ?_
    refine Ex_iload_n dX12_carryAll_99 rfl rfl ?_
    refine Ex_aload_n dX12_carryAll_100 rfl rfl ?_
    refine Ex_aload_n dX12_carryAll_101 rfl rfl ?_
    refine Ex_getf dX12_carryAll_102 rfl (ma0 M6_) rfl rfl rfl ?_
    refine Ex_iload_n dX12_carryAll_105 rfl rfl ?_
    refine Ex_iald12 (c := c) dX12_carryAll_106 rfl (ma4 M6_) rfl (by omega) ?_
    refine Ex_inv 2 dX12_carryAll_107 rfl rfl (Or.inl rfl) rfl rfl rfl rfl (ma0 M6_) rfl rfl rfl (Ex_post (x12_carryT16 (p := 2 + 5 * c + 3) M6_ hB (by rw [e3 _ (by decide), e2 _ (by decide), e1 _ (by decide)]; exact h25) (by rw [t3, t2, t1, h24]; omega) (by omega)) ?_)
    rintro _ h7_ ⟨rfl, ⟨g4_, M7_, t4, e4⟩, f7_⟩
    refine Ex_iast12 (c := c) dX12_carryAll_110 rfl (ma4 M7_) rfl (by omega) (by omega) ?_
    refine mg4 M7_ ?_
    intro h8_ M8_ f8_
    rw [fu_same] at M8_
    refine Ex_aload_n dX12_carryAll_111 rfl rfl ?_
    refine Ex_getf dX12_carryAll_112 rfl (ma0 M8_) rfl rfl rfl ?_
    refine Ex_iload_n dX12_carryAll_115 rfl rfl ?_
    refine Ex_aload_n dX12_carryAll_116 rfl rfl ?_
    refine Ex_aload_n dX12_carryAll_117 rfl rfl ?_
    refine Ex_getf dX12_carryAll_118 rfl (ma0 M8_) rfl rfl rfl ?_
    refine Ex_iload_n dX12_carryAll_121 rfl rfl ?_
    refine Ex_iald12 (c := c) dX12_carryAll_122 rfl (ma5 M8_) rfl (by omega) ?_
    refine Ex_inv 2 dX12_carryAll_123 rfl rfl (Or.inl rfl) rfl rfl rfl rfl (ma0 M8_) rfl rfl rfl (Ex_post (x12_carryT16 (p := 2 + 5 * c + 4) M8_ hB (by rw [e4 _ (by decide), e3 _ (by decide), e2 _ (by decide), e1 _ (by decide)]; exact h25) (by rw [t4, t3, t2, t1, h24]; omega) (by omega)) ?_)
    rintro _ h9_ ⟨rfl, ⟨g5_, M9_, t5, e5⟩, f9_⟩
    refine Ex_iast12 (c := c) dX12_carryAll_126 rfl (ma5 M9_) rfl (by omega) (by omega) ?_
    refine mg5 M9_ ?_
    intro h10_ M10_ f10_
    rw [fu_same] at M10_
    refine Ex_iinc (L2 := [_, _, _, _]) dX12_carryAll_127 rfl rfl rfl ?_
    refine Ex_goto (t := 41) dX12_carryAll_130 rfl ?_
    have hpk := pk_c X c
    rw [hX] at hpk
    obtain ⟨q0, q1, q2, q3, q4⟩ := hpk
    refine Ex_post (ih (c + 1) g5_ _ h10_ (by omega) M10_ (by rw [e5 _ (by decide), e4 _ (by decide), e3 _ (by decide), e2 _ (by decide), e1 _ (by decide)]; exact h25) (by rw [t5, t4, t3, t2, t1, h24]; omega) (fun i hi => ?_) (fun k k1 k2 => by rw [e5 _ k1, e4 _ k1, e3 _ k1, e2 _ k1, e1 _ k1]; exact hg0 k k1 k2)) ?_
    · by_cases z4 : i = 2 + 5 * c + 4
      · rw [z4, fu_at, q4]
      · rw [fu_ne z4]
        by_cases z3 : i = 2 + 5 * c + 3
        · rw [z3, fu_at, q3]
        · rw [fu_ne z3]
          by_cases z2 : i = 2 + 5 * c + 2
          · rw [z2, fu_at, q2]
          · rw [fu_ne z2]
            by_cases z1 : i = 2 + 5 * c + 1
            · rw [z1, fu_at, q1]
            · rw [fu_ne z1]
              by_cases z0 : i = 2 + 5 * c + 0
              · rw [z0, fu_at]; exact q0.symm
              · rw [fu_ne z0]; exact hf i (by omega)
    · rintro r1 h1 ⟨rfl, y1, y2⟩
      exact ⟨rfl, y1, (f1_.trans (f2_.trans (f3_.trans (f4_.trans (f5_.trans (f6_.trans (f7_.trans (f8_.trans (f9_.trans f10_))))))))).trans y2⟩
theorem x12_allT16 {E : am_E} {d : Nat} {h : Hp} {m n : Nat} {mm : Int} {g K F T S C : Nat → Int} {ρ : Nat → Nat → Int} {kp : Value}  (M : MAt h m g K F T S C ρ kp) (hn : g 0 = (n : Int)) (h6 : g 6 = mm) (hB : E.2 ≤ m)  : Ex E (d + 1) mX12_carryAll 0 [.ref m, .ref (m + 16), .int (i32 1), .retAddr 0] [] h (fun r1 h1 => r1 = none ∧ (∃ g2 f2, MAt h1 m g2 K F T S C (fuR ρ 16 f2) (.ref (m + 16)) ∧ (∀ i, i < 32 → f2 i = pk (n, mm, K, F, T, S, C) i) ∧ ∀ k, k ≠ 24 → k ≠ 25 → g2 k = g k) ∧ Fr h h1 m (m + 23)) := by
  refine Ex_aload_n dX12_carryAll_0 rfl rfl ?_
  refine Ex_aload_n dX12_carryAll_1 rfl rfl ?_
  refine Ex_putf (fs2 := (mcell m g (.ref (m + 16))).2) dX12_carryAll_2 rfl (ma0 M) rfl rfl rfl rfl rfl (by omega) rfl ?_
  refine mgk (kp2 := .ref (m + 16)) M ?_
  intro h1_ M1_ f1_
  refine Ex_aload_n dX12_carryAll_5 rfl rfl ?_
  refine Ex_iload_n dX12_carryAll_6 rfl rfl ?_
  refine Ex_put12 (k0 := 25) (v := 1) dX12_carryAll_7 rfl (ma0 M1_) rfl rfl rfl rfl rfl (by omega) rfl ?_
  refine mg0 M1_ ?_
  intro h2_ M2_ f2_
  refine Ex_aload_n dX12_carryAll_10 rfl rfl ?_
  refine Ex_iconst dX12_carryAll_11 rfl ?_
  refine Ex_put12 (k0 := 24) (v := 0) dX12_carryAll_12 rfl (ma0 M2_) rfl rfl rfl rfl rfl (by omega) rfl ?_
  refine mg0 M2_ ?_
  intro h3_ M3_ f3_
  refine Ex_aload_n dX12_carryAll_15 rfl rfl ?_
  refine Ex_aload_n dX12_carryAll_16 rfl rfl ?_
  refine Ex_aload_n dX12_carryAll_17 rfl rfl ?_
  refine Ex_getf dX12_carryAll_18 rfl (ma0 M3_) rfl rfl rfl ?_
  rw [show (fu (fu g 25 1) 24 0) 0 = g 0 from rfl]
  refine Ex_inv 2 dX12_carryAll_21 rfl rfl (Or.inl rfl) rfl rfl rfl rfl (ma0 M3_) rfl rfl rfl (Ex_post (x12_carryT16 (f := ρ 16) (p := 0) (by rw [fuR_same]; exact M3_) hB rfl rfl (by omega)) ?_)
  rintro _ h4_ ⟨rfl, ⟨g1_, M4_, t1, e1⟩, f4_⟩
  rw [hn]
  skip
  refine Ex_put12 (k0 := 0) (v := (n : Int)) dX12_carryAll_24 rfl (ma0 M4_) rfl rfl rfl rfl rfl (by omega) rfl ?_
  refine mg0 M4_ ?_
  intro h5_ M5_ f5_
  refine Ex_aload_n dX12_carryAll_27 rfl rfl ?_
  refine Ex_aload_n dX12_carryAll_28 rfl rfl ?_
  refine Ex_aload_n dX12_carryAll_29 rfl rfl ?_
  refine Ex_getf dX12_carryAll_30 rfl (ma0 M5_) rfl rfl rfl ?_
  rw [show (fu g1_ 0 (n : Int)) 6 = g1_ 6 from rfl]
  rw [show g1_ 6 = mm by rw [e1 _ (by decide)]; exact h6]
  refine Ex_inv 2 dX12_carryAll_33 rfl rfl (Or.inl rfl) rfl rfl rfl rfl (ma0 M5_) rfl rfl rfl (Ex_post (x12_carryT16 (p := 1) M5_ hB (by rw [show (fu g1_ 0 (n : Int)) 25 = g1_ 25 from rfl, e1 _ (by decide)]; rfl) (by rw [show (fu g1_ 0 (n : Int)) 24 = g1_ 24 from rfl, t1]; rfl) (by omega)) ?_)
  rintro _ h6_ ⟨rfl, ⟨g2_, M6_, t2, e2⟩, f6_⟩
  refine Ex_put12 (k0 := 6) (v := mm) dX12_carryAll_36 rfl (ma0 M6_) rfl rfl rfl rfl rfl (by omega) rfl ?_
  refine mg0 M6_ ?_
  intro h7_ M7_ f7_
  refine Ex_iconst dX12_carryAll_39 rfl ?_
  refine Ex_istore_n (L2 := [_, _, _, _]) dX12_carryAll_40 rfl rfl rfl ?_
  refine Ex_post (x12_allT16_l (g0 := g) (X := (n, mm, K, F, T, S, C)) hB rfl 6 0 _ _ h7_ (by omega) M7_ ?_ ?_ (fun i hi => ?_) (fun k k1 k2 => ?_)) ?_
  · show g2_ 25 = 1
    rw [e2 _ (by decide)]
    show g1_ 25 = 1
    rw [e1 _ (by decide)]
    rfl
  · show g2_ 24 = 2
    rw [t2]
    show g1_ 24 + 1 = 2
    rw [t1]
    rfl
  · by_cases z1 : i = 1
    · subst z1; rw [fu_at]; rfl
    · rw [fu_ne z1]
      have z0 : i = 0 := by omega
      subst z0
      rw [fu_at, hn]; rfl
  · by_cases z6 : k = 6
    · subst z6; exact h6.symm
    · rw [fu_ne z6, e2 _ k1]
      by_cases z0 : k = 0
      · subst z0; exact hn.symm
      · rw [fu_ne z0, e1 _ k1]
        rw [fu_ne k1, fu_ne k2]
  · rintro r1 h1 ⟨rfl, y1, y2⟩
    exact ⟨rfl, y1, (f1_.trans (f2_.trans (f3_.trans (f4_.trans (f5_.trans (f6_.trans f7_)))))).trans y2⟩
theorem x12_carryT19 {E : am_E} {d : Nat} {h : Hp} {m p : Nat} {g K F T S C f : Nat → Int} {ρ : Nat → Nat → Int} {v : Int}  (M : MAt h m g K F T S C (fuR ρ 19 f) (.ref (m + 19))) (hB : E.2 ≤ m) (h25 : g 25 = 1) (hp : g 24 = (p : Int)) (hp2 : p < 32)  : Ex E d mX12_carry 0 [.ref m, .int (i32 v)] [] h (fun r1 h1 => r1 = some (.int (i32 v)) ∧ (∃ g2, MAt h1 m g2 K F T S C (fuR ρ 19 (fu f p v)) (.ref (m + 19)) ∧ g2 24 = g 24 + 1 ∧ ∀ k, k ≠ 24 → g2 k = g k) ∧ Fr h h1 m (m + 23)) := by
  refine Ex_aload_n dX12_carry_0 rfl rfl ?_
  refine Ex_getf dX12_carry_1 rfl (ma0 M) rfl rfl rfl ?_
  refine Ex_if_eq (t := 17) dX12_carry_4 rfl rfl (by omega) (fun c4 => absurd c4 (by omega)) (fun c4 => ?_)
  refine Ex_aload_n dX12_carry_7 rfl rfl ?_
  refine Ex_getf dX12_carry_8 rfl (ma0 M) rfl rfl rfl ?_
  refine Ex_aload_n dX12_carry_11 rfl rfl ?_
  refine Ex_getf dX12_carry_12 rfl (ma0 M) rfl rfl rfl ?_
  refine Ex_iload_n dX12_carry_15 rfl rfl ?_
  refine Ex_iast12 (c := p) dX12_carry_16 rfl (ma19 M) hp (by omega) (by omega) ?_
  refine mg19 M ?_
  intro h1_ M1_ f1_
  refine Ex_aload_n dX12_carry_17 rfl rfl ?_
  refine Ex_dup dX12_carry_18 rfl rfl ?_
  refine Ex_getf dX12_carry_19 rfl (ma0 M1_) rfl rfl rfl ?_
  refine Ex_iconst dX12_carry_22 rfl ?_
  refine Ex_iadd dX12_carry_23 rfl ?_
  refine Ex_put12 (k0 := 24) (v := (g 24 + 1)) dX12_carry_24 rfl (ma0 M1_) rfl rfl rfl rfl rfl (by omega) rfl ?_
  refine mg0 M1_ ?_
  intro h2_ M2_ f2_
  refine Ex_aload_n dX12_carry_27 rfl rfl ?_
  refine Ex_getf dX12_carry_28 rfl (ma0 M2_) rfl rfl rfl ?_
  refine Ex_aload_n dX12_carry_31 rfl rfl ?_
  refine Ex_getf dX12_carry_32 rfl (ma0 M2_) rfl rfl rfl ?_
  rw [show (fu g 24 (g 24 + 1)) 24 = (g 24 + 1) from rfl]
  refine Ex_iconst dX12_carry_35 rfl ?_
  refine Ex_isub dX12_carry_36 rfl ?_
  refine Ex_iald12 (c := p) dX12_carry_37 rfl (ma19 M2_) (by omega) (by omega) ?_
  rw [show (fuR (fuR ρ 19 f) 19 (fu (fuR ρ 19 f 19) p v)) 19 p = v from fu_at f p v]
  refine Ex_iret dX12_carry_38 rfl rfl ?_
  rw [fuR_fuR] at M2_
  exact ⟨rfl, ⟨_, M2_, rfl, fun k hk => fu_ne hk⟩, (f1_.trans f2_)⟩
theorem x12_carryG19 {E : am_E} {d : Nat} {h : Hp} {m p : Nat} {g K F T S C : Nat → Int} {ρ : Nat → Nat → Int} {v : Int}  (M : MAt h m g K F T S C ρ (.ref (m + 19))) (hB : E.2 ≤ m) (h25 : g 25 = 0) (hp : g 24 = (p : Int)) (hp2 : p < 32)  : Ex E d mX12_carry 0 [.ref m, .int (i32 v)] [] h (fun r1 h1 => r1 = some (.int (i32 (ρ 19 p))) ∧ (∃ g2, MAt h1 m g2 K F T S C ρ (.ref (m + 19)) ∧ g2 24 = g 24 + 1 ∧ ∀ k, k ≠ 24 → g2 k = g k) ∧ Fr h h1 m (m + 23)) := by
  refine Ex_aload_n dX12_carry_0 rfl rfl ?_
  refine Ex_getf dX12_carry_1 rfl (ma0 M) rfl rfl rfl ?_
  refine Ex_if_eq (t := 17) dX12_carry_4 rfl rfl (by omega) (fun c4 => ?_) (fun c4 => absurd c4 (by omega))
  refine Ex_aload_n dX12_carry_17 rfl rfl ?_
  refine Ex_dup dX12_carry_18 rfl rfl ?_
  refine Ex_getf dX12_carry_19 rfl (ma0 M) rfl rfl rfl ?_
  refine Ex_iconst dX12_carry_22 rfl ?_
  refine Ex_iadd dX12_carry_23 rfl ?_
  refine Ex_put12 (k0 := 24) (v := (g 24 + 1)) dX12_carry_24 rfl (ma0 M) rfl rfl rfl rfl rfl (by omega) rfl ?_
  refine mg0 M ?_
  intro h1_ M1_ f1_
  refine Ex_aload_n dX12_carry_27 rfl rfl ?_
  refine Ex_getf dX12_carry_28 rfl (ma0 M1_) rfl rfl rfl ?_
  refine Ex_aload_n dX12_carry_31 rfl rfl ?_
  refine Ex_getf dX12_carry_32 rfl (ma0 M1_) rfl rfl rfl ?_
  rw [show (fu g 24 (g 24 + 1)) 24 = (g 24 + 1) from rfl]
  refine Ex_iconst dX12_carry_35 rfl ?_
  refine Ex_isub dX12_carry_36 rfl ?_
  refine Ex_iald12 (c := p) dX12_carry_37 rfl (ma19 M1_) (by omega) (by omega) ?_
  refine Ex_iret dX12_carry_38 rfl rfl ?_
  exact ⟨rfl, ⟨_, M1_, rfl, fun k hk => fu_ne hk⟩, f1_⟩
theorem x12_allT19_l {E : am_E} {d m : Nat} {g0 K F T S C : Nat → Int} {ρ : Nat → Nat → Int} {X : RS} (hB : E.2 ≤ m) (hX : X.2.2 = (K, F, T, S, C)) : ∀ (k c : Nat) (g f : Nat → Int) (h : Hp), c + k = 6 → MAt h m g K F T S C (fuR ρ 19 f) (.ref (m + 19)) → g 25 = 1 → g 24 = ((2 + 5 * c : Nat) : Int) → (∀ i, i < 2 + 5 * c → f i = pk X i) → (∀ k, k ≠ 24 → k ≠ 25 → g k = g0 k) → Ex E (d + 1) mX12_carryAll 41 [.ref m, .ref (m + 19), .int (i32 1), .int (i32 (c : Int))] [] h (fun r1 h1 => r1 = none ∧ (∃ g2 f2, MAt h1 m g2 K F T S C (fuR ρ 19 f2) (.ref (m + 19)) ∧ (∀ i, i < 32 → f2 i = pk X i) ∧ ∀ k, k ≠ 24 → k ≠ 25 → g2 k = g0 k) ∧ Fr h h1 m (m + 23)) := by
  intro k
  induction k with
  | zero =>
    intro c g f h hk M h25 h24 hf hg0
    refine Ex_iload_n dX12_carryAll_41 rfl rfl ?_
    refine Ex_bipush dX12_carryAll_42 rfl (by decide) ?_
    refine Ex_icmp_ge (t := 133) dX12_carryAll_44 rfl rfl (by omega) (fun c44 => ?_) (fun c44 => absurd c44 (by omega))
    refine Ex_vret dX12_carryAll_133 rfl ?_
    exact ⟨rfl, ⟨g, f, M, fun i hi => hf i (by omega), hg0⟩, Fr.rf _ _ _⟩
  | succ k ih =>
    intro c g f h hk M h25 h24 hf hg0
    refine Ex_iload_n dX12_carryAll_41 rfl rfl ?_
    refine Ex_bipush dX12_carryAll_42 rfl (by decide) ?_
    refine Ex_icmp_ge (t := 133) dX12_carryAll_44 rfl rfl (by omega) (fun c44 => absurd c44 (by omega)) (fun c44 => ?_)
    refine Ex_aload_n dX12_carryAll_47 rfl rfl ?_
    refine Ex_getf dX12_carryAll_48 rfl (ma0 M) rfl rfl rfl ?_
    refine Ex_iload_n dX12_carryAll_51 rfl rfl ?_
    refine Ex_aload_n dX12_carryAll_52 rfl rfl ?_
    refine Ex_aload_n dX12_carryAll_53 rfl rfl ?_
    refine Ex_getf dX12_carryAll_54 rfl (ma0 M) rfl rfl rfl ?_
    refine Ex_iload_n dX12_carryAll_57 rfl rfl ?_
    refine Ex_iald12 (c := c) dX12_carryAll_58 rfl (ma1 M) rfl (by omega) ?_
    refine Ex_inv 2 dX12_carryAll_59 rfl rfl (Or.inl rfl) rfl rfl rfl rfl (ma0 M) rfl rfl rfl (Ex_post (x12_carryT19 (p := 2 + 5 * c + 0) M hB h25 (by rw [h24]; rfl) (by omega)) ?_)
    rintro _ h1_ ⟨rfl, ⟨g1_, M1_, t1, e1⟩, f1_⟩
    refine Ex_iast12 (c := c) dX12_carryAll_62 rfl (ma1 M1_) rfl (by omega) (by omega) ?_
    refine mg1 M1_ ?_
    intro h2_ M2_ f2_
    rw [fu_same] at M2_
    refine Ex_aload_n dX12_carryAll_63 rfl rfl ?_
    refine Ex_getf dX12_carryAll_64 rfl (ma0 M2_) rfl rfl rfl ?_
    refine Ex_iload_n dX12_carryAll_67 rfl rfl ?_
    refine Ex_aload_n dX12_carryAll_68 rfl rfl ?_
    refine Ex_aload_n dX12_carryAll_69 rfl rfl ?_
    refine Ex_getf dX12_carryAll_70 rfl (ma0 M2_) rfl rfl rfl ?_
    refine Ex_iload_n dX12_carryAll_73 rfl rfl ?_
    refine Ex_iald12 (c := c) dX12_carryAll_74 rfl (ma2 M2_) rfl (by omega) ?_
    refine Ex_inv 2 dX12_carryAll_75 rfl rfl (Or.inl rfl) rfl rfl rfl rfl (ma0 M2_) rfl rfl rfl (Ex_post (x12_carryT19 (p := 2 + 5 * c + 1) M2_ hB (by rw [e1 _ (by decide)]; exact h25) (by rw [t1, h24]; omega) (by omega)) ?_)
    rintro _ h3_ ⟨rfl, ⟨g2_, M3_, t2, e2⟩, f3_⟩
    refine Ex_iast12 (c := c) dX12_carryAll_78 rfl (ma2 M3_) rfl (by omega) (by omega) ?_
    refine mg2 M3_ ?_
    intro h4_ M4_ f4_
    rw [fu_same] at M4_
    refine Ex_aload_n dX12_carryAll_79 rfl rfl ?_
    refine Ex_getf dX12_carryAll_80 rfl (ma0 M4_) rfl rfl rfl ?_
    refine Ex_iload_n dX12_carryAll_83 rfl rfl ?_
    refine Ex_aload_n dX12_carryAll_84 rfl rfl ?_
    refine Ex_aload_n dX12_carryAll_85 rfl rfl ?_
    refine Ex_getf dX12_carryAll_86 rfl (ma0 M4_) rfl rfl rfl ?_
    refine Ex_iload_n dX12_carryAll_89 rfl rfl ?_
    refine Ex_iald12 (c := c) dX12_carryAll_90 rfl (ma3 M4_) rfl (by omega) ?_
    refine Ex_inv 2 dX12_carryAll_91 rfl rfl (Or.inl rfl) rfl rfl rfl rfl (ma0 M4_) rfl rfl rfl (Ex_post (x12_carryT19 (p := 2 + 5 * c + 2) M4_ hB (by rw [e2 _ (by decide), e1 _ (by decide)]; exact h25) (by rw [t2, t1, h24]; omega) (by omega)) ?_)
    rintro _ h5_ ⟨rfl, ⟨g3_, M5_, t3, e3⟩, f5_⟩
    refine Ex_iast12 (c := c) dX12_carryAll_94 rfl (ma3 M5_) rfl (by omega) (by omega) ?_
    refine mg3 M5_ ?_
    intro h6_ M6_ f6_
    rw [fu_same] at M6_
    refine Ex_aload_n dX12_carryAll_95 rfl rfl ?_
    refine Ex_getf dX12_carryAll_96 rfl (ma0 M6_) rfl rfl rfl ?_
    refine Ex_iload_n dX12_carryAll_99 rfl rfl ?_
    refine Ex_aload_n dX12_carryAll_100 rfl rfl ?_
    refine Ex_aload_n dX12_carryAll_101 rfl rfl ?_
    refine Ex_getf dX12_carryAll_102 rfl (ma0 M6_) rfl rfl rfl ?_
    refine Ex_iload_n dX12_carryAll_105 rfl rfl ?_
    refine Ex_iald12 (c := c) dX12_carryAll_106 rfl (ma4 M6_) rfl (by omega) ?_
    refine Ex_inv 2 dX12_carryAll_107 rfl rfl (Or.inl rfl) rfl rfl rfl rfl (ma0 M6_) rfl rfl rfl (Ex_post (x12_carryT19 (p := 2 + 5 * c + 3) M6_ hB (by rw [e3 _ (by decide), e2 _ (by decide), e1 _ (by decide)]; exact h25) (by rw [t3, t2, t1, h24]; omega) (by omega)) ?_)
    rintro _ h7_ ⟨rfl, ⟨g4_, M7_, t4, e4⟩, f7_⟩
    refine Ex_iast12 (c := c) dX12_carryAll_110 rfl (ma4 M7_) rfl (by omega) (by omega) ?_
    refine mg4 M7_ ?_
    intro h8_ M8_ f8_
    rw [fu_same] at M8_
    refine Ex_aload_n dX12_carryAll_111 rfl rfl ?_
    refine Ex_getf dX12_carryAll_112 rfl (ma0 M8_) rfl rfl rfl ?_
    refine Ex_iload_n dX12_carryAll_115 rfl rfl ?_
    refine Ex_aload_n dX12_carryAll_116 rfl rfl ?_
    refine Ex_aload_n dX12_carryAll_117 rfl rfl ?_
    refine Ex_getf dX12_carryAll_118 rfl (ma0 M8_) rfl rfl rfl ?_
    refine Ex_iload_n dX12_carryAll_121 rfl rfl ?_
    refine Ex_iald12 (c := c) dX12_carryAll_122 rfl (ma5 M8_) rfl (by omega) ?_
    refine Ex_inv 2 dX12_carryAll_123 rfl rfl (Or.inl rfl) rfl rfl rfl rfl (ma0 M8_) rfl rfl rfl (Ex_post (x12_carryT19 (p := 2 + 5 * c + 4) M8_ hB (by rw [e4 _ (by decide), e3 _ (by decide), e2 _ (by decide), e1 _ (by decide)]; exact h25) (by rw [t4, t3, t2, t1, h24]; omega) (by omega)) ?_)
    rintro _ h9_ ⟨rfl, ⟨g5_, M9_, t5, e5⟩, f9_⟩
    refine Ex_iast12 (c := c) dX12_carryAll_126 rfl (ma5 M9_) rfl (by omega) (by omega) ?_
    refine mg5 M9_ ?_
    intro h10_ M10_ f10_
    rw [fu_same] at M10_
    refine Ex_iinc (L2 := [_, _, _, _]) dX12_carryAll_127 rfl rfl rfl ?_
    refine Ex_goto (t := 41) dX12_carryAll_130 rfl ?_
    have hpk := pk_c X c
    rw [hX] at hpk
    obtain ⟨q0, q1, q2, q3, q4⟩ := hpk
    refine Ex_post (ih (c + 1) g5_ _ h10_ (by omega) M10_ (by rw [e5 _ (by decide), e4 _ (by decide), e3 _ (by decide), e2 _ (by decide), e1 _ (by decide)]; exact h25) (by rw [t5, t4, t3, t2, t1, h24]; omega) (fun i hi => ?_) (fun k k1 k2 => by rw [e5 _ k1, e4 _ k1, e3 _ k1, e2 _ k1, e1 _ k1]; exact hg0 k k1 k2)) ?_
    · by_cases z4 : i = 2 + 5 * c + 4
      · rw [z4, fu_at, q4]
      · rw [fu_ne z4]
        by_cases z3 : i = 2 + 5 * c + 3
        · rw [z3, fu_at, q3]
        · rw [fu_ne z3]
          by_cases z2 : i = 2 + 5 * c + 2
          · rw [z2, fu_at, q2]
          · rw [fu_ne z2]
            by_cases z1 : i = 2 + 5 * c + 1
            · rw [z1, fu_at, q1]
            · rw [fu_ne z1]
              by_cases z0 : i = 2 + 5 * c + 0
              · rw [z0, fu_at]; exact q0.symm
              · rw [fu_ne z0]; exact hf i (by omega)
    · rintro r1 h1 ⟨rfl, y1, y2⟩
      exact ⟨rfl, y1, (f1_.trans (f2_.trans (f3_.trans (f4_.trans (f5_.trans (f6_.trans (f7_.trans (f8_.trans (f9_.trans f10_))))))))).trans y2⟩
theorem x12_allT19 {E : am_E} {d : Nat} {h : Hp} {m n : Nat} {mm : Int} {g K F T S C : Nat → Int} {ρ : Nat → Nat → Int} {kp : Value}  (M : MAt h m g K F T S C ρ kp) (hn : g 0 = (n : Int)) (h6 : g 6 = mm) (hB : E.2 ≤ m)  : Ex E (d + 1) mX12_carryAll 0 [.ref m, .ref (m + 19), .int (i32 1), .retAddr 0] [] h (fun r1 h1 => r1 = none ∧ (∃ g2 f2, MAt h1 m g2 K F T S C (fuR ρ 19 f2) (.ref (m + 19)) ∧ (∀ i, i < 32 → f2 i = pk (n, mm, K, F, T, S, C) i) ∧ ∀ k, k ≠ 24 → k ≠ 25 → g2 k = g k) ∧ Fr h h1 m (m + 23)) := by
  refine Ex_aload_n dX12_carryAll_0 rfl rfl ?_
  refine Ex_aload_n dX12_carryAll_1 rfl rfl ?_
  refine Ex_putf (fs2 := (mcell m g (.ref (m + 19))).2) dX12_carryAll_2 rfl (ma0 M) rfl rfl rfl rfl rfl (by omega) rfl ?_
  refine mgk (kp2 := .ref (m + 19)) M ?_
  intro h1_ M1_ f1_
  refine Ex_aload_n dX12_carryAll_5 rfl rfl ?_
  refine Ex_iload_n dX12_carryAll_6 rfl rfl ?_
  refine Ex_put12 (k0 := 25) (v := 1) dX12_carryAll_7 rfl (ma0 M1_) rfl rfl rfl rfl rfl (by omega) rfl ?_
  refine mg0 M1_ ?_
  intro h2_ M2_ f2_
  refine Ex_aload_n dX12_carryAll_10 rfl rfl ?_
  refine Ex_iconst dX12_carryAll_11 rfl ?_
  refine Ex_put12 (k0 := 24) (v := 0) dX12_carryAll_12 rfl (ma0 M2_) rfl rfl rfl rfl rfl (by omega) rfl ?_
  refine mg0 M2_ ?_
  intro h3_ M3_ f3_
  refine Ex_aload_n dX12_carryAll_15 rfl rfl ?_
  refine Ex_aload_n dX12_carryAll_16 rfl rfl ?_
  refine Ex_aload_n dX12_carryAll_17 rfl rfl ?_
  refine Ex_getf dX12_carryAll_18 rfl (ma0 M3_) rfl rfl rfl ?_
  rw [show (fu (fu g 25 1) 24 0) 0 = g 0 from rfl]
  refine Ex_inv 2 dX12_carryAll_21 rfl rfl (Or.inl rfl) rfl rfl rfl rfl (ma0 M3_) rfl rfl rfl (Ex_post (x12_carryT19 (f := ρ 19) (p := 0) (by rw [fuR_same]; exact M3_) hB rfl rfl (by omega)) ?_)
  rintro _ h4_ ⟨rfl, ⟨g1_, M4_, t1, e1⟩, f4_⟩
  rw [hn]
  skip
  refine Ex_put12 (k0 := 0) (v := (n : Int)) dX12_carryAll_24 rfl (ma0 M4_) rfl rfl rfl rfl rfl (by omega) rfl ?_
  refine mg0 M4_ ?_
  intro h5_ M5_ f5_
  refine Ex_aload_n dX12_carryAll_27 rfl rfl ?_
  refine Ex_aload_n dX12_carryAll_28 rfl rfl ?_
  refine Ex_aload_n dX12_carryAll_29 rfl rfl ?_
  refine Ex_getf dX12_carryAll_30 rfl (ma0 M5_) rfl rfl rfl ?_
  rw [show (fu g1_ 0 (n : Int)) 6 = g1_ 6 from rfl]
  rw [show g1_ 6 = mm by rw [e1 _ (by decide)]; exact h6]
  refine Ex_inv 2 dX12_carryAll_33 rfl rfl (Or.inl rfl) rfl rfl rfl rfl (ma0 M5_) rfl rfl rfl (Ex_post (x12_carryT19 (p := 1) M5_ hB (by rw [show (fu g1_ 0 (n : Int)) 25 = g1_ 25 from rfl, e1 _ (by decide)]; rfl) (by rw [show (fu g1_ 0 (n : Int)) 24 = g1_ 24 from rfl, t1]; rfl) (by omega)) ?_)
  rintro _ h6_ ⟨rfl, ⟨g2_, M6_, t2, e2⟩, f6_⟩
  refine Ex_put12 (k0 := 6) (v := mm) dX12_carryAll_36 rfl (ma0 M6_) rfl rfl rfl rfl rfl (by omega) rfl ?_
  refine mg0 M6_ ?_
  intro h7_ M7_ f7_
  refine Ex_iconst dX12_carryAll_39 rfl ?_
  refine Ex_istore_n (L2 := [_, _, _, _]) dX12_carryAll_40 rfl rfl rfl ?_
  refine Ex_post (x12_allT19_l (g0 := g) (X := (n, mm, K, F, T, S, C)) hB rfl 6 0 _ _ h7_ (by omega) M7_ ?_ ?_ (fun i hi => ?_) (fun k k1 k2 => ?_)) ?_
  · show g2_ 25 = 1
    rw [e2 _ (by decide)]
    show g1_ 25 = 1
    rw [e1 _ (by decide)]
    rfl
  · show g2_ 24 = 2
    rw [t2]
    show g1_ 24 + 1 = 2
    rw [t1]
    rfl
  · by_cases z1 : i = 1
    · subst z1; rw [fu_at]; rfl
    · rw [fu_ne z1]
      have z0 : i = 0 := by omega
      subst z0
      rw [fu_at, hn]; rfl
  · by_cases z6 : k = 6
    · subst z6; exact h6.symm
    · rw [fu_ne z6, e2 _ k1]
      by_cases z0 : k = 0
      · subst z0; exact hn.symm
      · rw [fu_ne z0, e1 _ k1]
        rw [fu_ne k1, fu_ne k2]
  · rintro r1 h1 ⟨rfl, y1, y2⟩
    exact ⟨rfl, y1, (f1_.trans (f2_.trans (f3_.trans (f4_.trans (f5_.trans (f6_.trans f7_)))))).trans y2⟩
