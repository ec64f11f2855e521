/-! the reference: bath (by program: wip/whole/spec_sd.py) -/
/-- c STATEMENTS told, from number j and place p on -/
def TL (ρ : Nat → Nat → Int) (xs : List Int) : Nat → Nat → Nat → Prop
  | 0, _, p => xs.length ≤ p
  | c + 1, j, p => p < xs.length ∧ Told ρ xs j p ∧ TL ρ xs c (j + 1) (p + (dB (gx xs (p : Int))).toNat + 2)
theorem TL.cg {ρ ρ2 : Nat → Nat → Int} {xs : List Int} (h12 : ρ2 12 = ρ 12) (h13 : ρ2 13 = ρ 13) (h14 : ρ2 14 = ρ 14) : ∀ (c j p : Nat), TL ρ xs c j p → TL ρ2 xs c j p
  | 0, _, _, t => t
  | c + 1, j, p, t => by
    obtain ⟨a, b, e⟩ := t
    refine ⟨a, ?_, TL.cg h12 h13 h14 c _ _ e⟩
    unfold Told at b ⊢
    rw [h12, h13, h14]
    exact b
theorem x12_bath_r {E : am_E} {d m a : Nat} {xs : List Int} {K F T S C : Nat → Int} {kp : Value} {ρ0 : Nat → Nat → Int} {Q : Option Value → Hp → Prop} (hB : E.2 ≤ m) (ha : a < 8) (hlen : ρ0 10 a = (xs.length : Int)) (hl2 : xs.length ≤ 100) (hx : ∀ i, i < xs.length → ρ0 11 (100 * a + i) = xs.getD i 0 ∧ (-2147483648 ≤ xs.getD i 0 ∧ xs.getD i 0 ≤ 2147483647))  : ∀ (k j p : Nat) (g : Nat → Int) (ρ : Nat → Nat → Int) (h : Hp), xs.length + 1 ≤ p + k → p ≤ xs.length → 3 * j ≤ p → (j = 0 → p = 0) → (0 < j → 0 < xs.length) → MAt h m g K F T S C ρ kp → g 14 = (a : Int) → g 15 = (p : Int) → g 16 = 0 → g 17 = (j : Int) → ρ 10 = ρ0 10 → ρ 11 = ρ0 11 → (∀ (h2 : Hp) (g2 : Nat → Int) (ρ2 : Nat → Nat → Int), MAt h2 m g2 K F T S C ρ2 kp → KeepT ρ ρ2 j → (∀ t, t ≠ 15 → t ≠ 16 → t ≠ 17 → g2 t = g t) → Fr h h2 m (m + 23) → ((g2 16 = 0 ∧ msh xs p (-1) (xs.length - p) = -1 ∧ ∃ c, g2 17 = ((j + c : Nat) : Int) ∧ j + c ≤ 50 ∧ TL ρ2 xs c j p) ∨ (g2 16 = 1 ∧ g2 15 = msh xs p (-1) (xs.length - p) ∧ 0 ≤ msh xs p (-1) (xs.length - p))) → Ex E (d + 7) mX12_bath 91 [.ref m, .int (i32 (a : Int)), .int (i32 0), .retAddr 0] [] h2 Q) → Ex E (d + 7) mX12_bath 57 [.ref m, .int (i32 (a : Int)), .int (i32 0), .retAddr 0] [] h Q := by
  intro k
  induction k with
  | zero =>
    intro j p g ρ h hk hp hj3 hj0 hj1 M h14 h15 h16 h17 e10 e11 kont
    exfalso; omega
  | succ k ih =>
    intro j p g ρ h hk hp hj3 hj0 hj1 M h14 h15 h16 h17 e10 e11 kont
    have hlen' : ρ 10 a = (xs.length : Int) := by rw [e10]; exact hlen
    have hx' : ∀ i, i < xs.length → ρ 11 (100 * a + i) = xs.getD i 0 ∧ (-2147483648 ≤ xs.getD i 0 ∧ xs.getD i 0 ≤ 2147483647) := by rw [e11]; exact hx
    by_cases q : j = 0 ∨ p < xs.length
    · by_cases qj : j = 0
      · skip
        refine Ex_aload_n dX12_bath_57 rfl rfl ?_
        refine Ex_getf dX12_bath_58 rfl (ma0 M) rfl rfl rfl ?_
        rw [h16]
        refine Ex_if_ne (t := 91) dX12_bath_61 rfl rfl (by omega) (fun c61 => absurd c61 (by omega)) (fun c61 => ?_)
        refine Ex_aload_n dX12_bath_64 rfl rfl ?_
        refine Ex_getf dX12_bath_65 rfl (ma0 M) rfl rfl rfl ?_
        rw [h17]
        refine Ex_if_eq (t := 84) dX12_bath_68 rfl rfl (by omega) (fun c68 => ?_) (fun c68 => absurd c68 (by omega))
        refine Ex_aload_n dX12_bath_84 rfl rfl ?_
        refine Ex_inv 2 dX12_bath_85 rfl rfl (Or.inl rfl) rfl rfl rfl rfl (ma0 M) rfl rfl rfl (Ex_post (x12_readStatement (a := a) (p := p) (k := j) (xs := xs) M hB ha hlen' hl2 hx' h14 h15 h16 h17 (by omega) (by omega)) ?_)
        rintro _ h1_ ⟨rfl, ⟨gA, ρA, M1_, y16, y15, y17, yT, yK, yg⟩, f1_⟩
        refine Ex_goto (t := 57) dX12_bath_88 rfl ?_
        have hs := rs1_msh (xs := xs) (p := p) (by omega)
        rcases rs1_v xs p with hv | hv
        · obtain ⟨s1, s2, s3, s4, s5⟩ := hs.1 hv
          refine ih (j + 1) (rs1 xs p).2 gA ρA h1_ (by omega) (by omega) (by omega) (fun z => by omega) (fun _ => by omega) M1_ (by rw [yg _ (by decide) (by decide) (by decide)]; exact h14) y15 (by rw [y16, hv]) y17 (by rw [yK.1 10 (by decide) (by decide) (by decide)]; exact e10) (by rw [yK.1 11 (by decide) (by decide) (by decide)]; exact e11) (fun h2 g2 ρ2 z1 z2 z3 z4 z5 => ?_)
          refine kont h2 g2 ρ2 z1 (yK.trans z2 (by omega)) (fun t q1 q2 q3 => by rw [z3 t q1 q2 q3, yg t q1 q2 q3]) (f1_.trans z4) ?_
          rw [s5]
          rcases z5 with ⟨w1, w2, c, w3, w4, w5⟩ | z5
          · refine Or.inl ⟨w1, w2, c + 1, (by rw [w3]; omega), by omega, s1, (yT hv s1).keep z2, ?_⟩
            rw [← s2]
            exact w5
          · exact Or.inr z5
        · have hm := hs.2 hv
          refine Ex_aload_n dX12_bath_57 rfl rfl ?_
          refine Ex_getf dX12_bath_58 rfl (ma0 M1_) rfl rfl rfl ?_
          rw [y16, hv]
          refine Ex_if_ne (t := 91) dX12_bath_61 rfl rfl (by omega) (fun c61 => ?_) (fun c61 => absurd c61 (by omega))
          exact kont h1_ gA ρA M1_ yK yg f1_ (Or.inr ⟨by rw [y16, hv], by rw [y15, hm], by rw [hm]; omega⟩)
      · skip
        refine Ex_aload_n dX12_bath_57 rfl rfl ?_
        refine Ex_getf dX12_bath_58 rfl (ma0 M) rfl rfl rfl ?_
        rw [h16]
        refine Ex_if_ne (t := 91) dX12_bath_61 rfl rfl (by omega) (fun c61 => absurd c61 (by omega)) (fun c61 => ?_)
        refine Ex_aload_n dX12_bath_64 rfl rfl ?_
        refine Ex_getf dX12_bath_65 rfl (ma0 M) rfl rfl rfl ?_
        rw [h17]
        refine Ex_if_eq (t := 84) dX12_bath_68 rfl rfl (by omega) (fun c68 => absurd c68 (by omega)) (fun c68 => ?_)
        refine Ex_aload_n dX12_bath_71 rfl rfl ?_
        refine Ex_getf dX12_bath_72 rfl (ma0 M) rfl rfl rfl ?_
        refine Ex_aload_n dX12_bath_75 rfl rfl ?_
        refine Ex_getf dX12_bath_76 rfl (ma0 M) rfl rfl rfl ?_
        refine Ex_iload_n dX12_bath_79 rfl rfl ?_
        refine Ex_iald12 (c := a) dX12_bath_80 rfl (ma10 M) rfl (by omega) ?_
        rw [h15, hlen']
        refine Ex_icmp_ge (t := 91) dX12_bath_81 rfl rfl (by omega) (fun c81 => absurd c81 (by omega)) (fun c81 => ?_)
        refine Ex_aload_n dX12_bath_84 rfl rfl ?_
        refine Ex_inv 2 dX12_bath_85 rfl rfl (Or.inl rfl) rfl rfl rfl rfl (ma0 M) rfl rfl rfl (Ex_post (x12_readStatement (a := a) (p := p) (k := j) (xs := xs) M hB ha hlen' hl2 hx' h14 h15 h16 h17 (by omega) (by omega)) ?_)
        rintro _ h1_ ⟨rfl, ⟨gA, ρA, M1_, y16, y15, y17, yT, yK, yg⟩, f1_⟩
        refine Ex_goto (t := 57) dX12_bath_88 rfl ?_
        have hs := rs1_msh (xs := xs) (p := p) (by omega)
        rcases rs1_v xs p with hv | hv
        · obtain ⟨s1, s2, s3, s4, s5⟩ := hs.1 hv
          refine ih (j + 1) (rs1 xs p).2 gA ρA h1_ (by omega) (by omega) (by omega) (fun z => by omega) (fun _ => by omega) M1_ (by rw [yg _ (by decide) (by decide) (by decide)]; exact h14) y15 (by rw [y16, hv]) y17 (by rw [yK.1 10 (by decide) (by decide) (by decide)]; exact e10) (by rw [yK.1 11 (by decide) (by decide) (by decide)]; exact e11) (fun h2 g2 ρ2 z1 z2 z3 z4 z5 => ?_)
          refine kont h2 g2 ρ2 z1 (yK.trans z2 (by omega)) (fun t q1 q2 q3 => by rw [z3 t q1 q2 q3, yg t q1 q2 q3]) (f1_.trans z4) ?_
          rw [s5]
          rcases z5 with ⟨w1, w2, c, w3, w4, w5⟩ | z5
          · refine Or.inl ⟨w1, w2, c + 1, (by rw [w3]; omega), by omega, s1, (yT hv s1).keep z2, ?_⟩
            rw [← s2]
            exact w5
          · exact Or.inr z5
        · have hm := hs.2 hv
          refine Ex_aload_n dX12_bath_57 rfl rfl ?_
          refine Ex_getf dX12_bath_58 rfl (ma0 M1_) rfl rfl rfl ?_
          rw [y16, hv]
          refine Ex_if_ne (t := 91) dX12_bath_61 rfl rfl (by omega) (fun c61 => ?_) (fun c61 => absurd c61 (by omega))
          exact kont h1_ gA ρA M1_ yK yg f1_ (Or.inr ⟨by rw [y16, hv], by rw [y15, hm], by rw [hm]; omega⟩)
    · refine Ex_aload_n dX12_bath_57 rfl rfl ?_
      refine Ex_getf dX12_bath_58 rfl (ma0 M) rfl rfl rfl ?_
      rw [h16]
      refine Ex_if_ne (t := 91) dX12_bath_61 rfl rfl (by omega) (fun c61 => absurd c61 (by omega)) (fun c61 => ?_)
      refine Ex_aload_n dX12_bath_64 rfl rfl ?_
      refine Ex_getf dX12_bath_65 rfl (ma0 M) rfl rfl rfl ?_
      rw [h17]
      refine Ex_if_eq (t := 84) dX12_bath_68 rfl rfl (by omega) (fun c68 => absurd c68 (by omega)) (fun c68 => ?_)
      refine Ex_aload_n dX12_bath_71 rfl rfl ?_
      refine Ex_getf dX12_bath_72 rfl (ma0 M) rfl rfl rfl ?_
      refine Ex_aload_n dX12_bath_75 rfl rfl ?_
      refine Ex_getf dX12_bath_76 rfl (ma0 M) rfl rfl rfl ?_
      refine Ex_iload_n dX12_bath_79 rfl rfl ?_
      refine Ex_iald12 (c := a) dX12_bath_80 rfl (ma10 M) rfl (by omega) ?_
      rw [h15, hlen']
      refine Ex_icmp_ge (t := 91) dX12_bath_81 rfl rfl (by omega) (fun c81 => ?_) (fun c81 => absurd c81 (by omega))
      have ep : p = xs.length := by omega
      have em : msh xs p (-1) (xs.length - p) = -1 := by
        rw [ep, Nat.sub_self]
        simp only [msh]
        rw [if_pos ⟨True.intro, by omega⟩]
      exact kont h g ρ M (KeepT.rf _ _) (fun _ _ _ _ => rfl) (Fr.rf _ _ _) (Or.inl ⟨h16, em, 0, h17, by omega, by show xs.length ≤ p; omega⟩)
theorem baL_end {xs : List Int} {i told : Int} {X : RS} (h : (xs.length : Int) ≤ i) : ∀ f, baL xs i told X f = (told, some X)
  | 0 => rfl
  | f + 1 => by simp only [baL]; rw [if_neg (by omega)]
theorem dB_pos {z : Int} (h : 0 ≤ dB z) : 1 ≤ dB z := by
  unfold dB at h ⊢
  repeat' split
  all_goals omega
theorem obAt_ok {xs : List Int} {i : Int} {X Y : RS} (hX : OKS X) (hdb : 1 ≤ dB (gx xs i)) (hd : ∀ j : Int, 1 ≤ j → j ≤ dB (gx xs i) → 48 ≤ gx xs (i + j) ∧ gx xs (i + j) ≤ 57) (h : obAt xs i X = some Y) : OKS Y := by
  unfold obAt at h
  have h1 := hd 1 (by omega) hdb
  refine ob_ok hX (by omega) ?_ ?_ ?_ h
  · by_cases e : gx xs i = 98
    · exact Or.inl e
    · have h2 := hd 2 (by omega) (by unfold dB at hdb ⊢; (repeat' split at hdb) <;> (repeat' split) <;> omega)
      exact Or.inr (Or.inr (by omega))
  · intro e
    have h2 := hd 2 (by omega) (by rw [e]; decide)
    have h3 := hd 3 (by omega) (by rw [e]; decide)
    rw [show i + 3 = i + 2 + 1 by omega] at h3
    omega
  · intro e
    have h2 := hd 3 (by omega) (by rw [e]; decide)
    have h3 := hd 4 (by omega) (by rw [e]; decide)
    rw [show i + 4 = i + 3 + 1 by omega] at h3
    omega
theorem x12_bath_t {E : am_E} {d m n0 : Nat} {a mt hi : Int} {xs : List Int} {K0 F0 T0 S0 C0 : Nat → Int} {kp : Value} {σ : Nat → Nat → Int} (hB : E.2 ≤ m) (hl2 : xs.length ≤ 100) : ∀ (c j p f : Nat) (Y : RS) (g : Nat → Int) (ρ : Nat → Nat → Int) (h : Hp), xs.length ≤ p + f → p ≤ xs.length → TL ρ xs c j p → msh xs p (-1) (xs.length - p) = -1 → OKS Y → MAt h m g Y.2.2.1 Y.2.2.2.1 Y.2.2.2.2.1 Y.2.2.2.2.2.1 Y.2.2.2.2.2.2 ρ kp → g 0 = (Y.1 : Int) → g 6 = Y.2.1 → g 17 = ((j + c : Nat) : Int) → j + c ≤ 50 → g 23 = hi → (∀ j, (6 ≤ j ∧ j ≤ 11) ∨ j = 16 → ρ j = σ j) → (∀ i, i < 32 → ρ 15 i = pk (n0, mt, K0, F0, T0, S0, C0) i) → Ex E (d + 7) mX12_bath 113 [.ref m, .int (i32 a), .int (i32 0), .int (i32 (j : Int))] [] h (fun r1 h1 => r1 = some (.int (i32 (baL xs (p : Int) (j : Int) Y f).1)) ∧ MI h1 m ((baL xs (p : Int) (j : Int) Y f).2.getD (n0, mt, K0, F0, T0, S0, C0)) hi σ ∧ Fr h h1 m (m + 23)) := by
  intro c
  induction c with
  | zero =>
    intro j p f Y g ρ h hf hp hT hm hO M hn h6 h17 hjc h23 hσ hpk
    have hp2 : xs.length ≤ p := hT
    rw [baL_end (by omega) f]
    refine Ex_iload_n dX12_bath_113 rfl rfl ?_
    refine Ex_aload_n dX12_bath_114 rfl rfl ?_
    refine Ex_getf dX12_bath_115 rfl (ma0 M) rfl rfl rfl ?_
    rw [h17]
    refine Ex_icmp_ge (t := 150) dX12_bath_118 rfl rfl (by omega) (fun c118 => ?_) (fun c118 => absurd c118 (by omega))
    refine Ex_aload_n dX12_bath_150 rfl rfl ?_
    refine Ex_getf dX12_bath_151 rfl (ma0 M) rfl rfl rfl ?_
    refine Ex_iret dX12_bath_154 rfl rfl ?_
    exact ⟨ri (by omega), ⟨g, ρ, kp, M, hn, h6, h23, hσ⟩, Fr.rf _ _ _⟩
  | succ c ih =>
    intro j p f Y g ρ h hf hp hT hm hO M hn h6 h17 hjc h23 hσ hpk
    obtain ⟨hp2, hTd, hT2⟩ := hT
    obtain ⟨f, rfl⟩ : ∃ q, f = q + 1 := ⟨f - 1, by omega⟩
    obtain ⟨s1, s2, s3, s4⟩ := msh_st (xs := xs) (i := p) (k := xs.length - p) (by omega) (by omega) hm
    have s1 := dB_pos s1
    have tP : ρ 12 j = (p : Int) := hTd.1
    have eb : baL xs (p : Int) (j : Int) Y (f + 1) = if (p : Int) < (xs.length : Int) then (match obAt xs (p : Int) Y with
      | none => (-2000 - (p : Int), none)
      | some Y2 => baL xs ((p : Int) + dB (gx xs (p : Int)) + 2) ((j : Int) + 1) Y2 f) else ((j : Int), some Y) := rfl
    rw [if_pos (by omega)] at eb
    have hO' := hO
    obtain ⟨n, mm, K, F, T, S, C⟩ := Y
    have M : MAt h m g K F T S C ρ kp := M
    have hn : g 0 = (n : Int) := hn
    have h6 : g 6 = mm := h6
    cases hob : obAt xs (p : Int) (n, mm, K, F, T, S, C) with
    | none =>
      rw [hob] at eb
      rw [eb]
      refine Ex_iload_n dX12_bath_113 rfl rfl ?_
      refine Ex_aload_n dX12_bath_114 rfl rfl ?_
      refine Ex_getf dX12_bath_115 rfl (ma0 M) rfl rfl rfl ?_
      rw [h17]
      refine Ex_icmp_ge (t := 150) dX12_bath_118 rfl rfl (by omega) (fun c118 => absurd c118 (by omega)) (fun c118 => ?_)
      refine Ex_aload_n dX12_bath_121 rfl rfl ?_
      refine Ex_iload_n dX12_bath_122 rfl rfl ?_
      refine Ex_inv 2 dX12_bath_123 rfl rfl (Or.inl rfl) rfl rfl rfl rfl (ma0 M) rfl rfl rfl (Ex_post (x12_comesTold (k := j) (i := p) (xs := xs) M hn h6 hO' hB (by omega) hTd s1 s2) ?_)
      rintro r1 h1 zz
      rw [hob] at zz
      obtain ⟨rfl, e0⟩ := zz
      obtain rfl := Eq.symm e0
      refine Ex_if_ne (t := 144) dX12_bath_126 rfl rfl (by omega) (fun c126 => absurd c126 (by omega)) (fun c126 => ?_)
      refine Ex_aload_n dX12_bath_129 rfl rfl ?_
      refine Ex_inv 2 dX12_bath_130 rfl rfl (Or.inl rfl) rfl rfl rfl rfl (ma0 M) rfl rfl rfl (Ex_post (x12_close M hpk hB) ?_)
      rintro _ h1_ ⟨rfl, ⟨g3, M1_, ⟨g30, g36⟩, eg3⟩, f1_⟩
      refine Ex_sipush dX12_bath_133 rfl (by decide) ?_
      refine Ex_aload_n dX12_bath_136 rfl rfl ?_
      refine Ex_getf dX12_bath_137 rfl (ma0 M1_) rfl rfl rfl ?_
      refine Ex_iload_n dX12_bath_140 rfl rfl ?_
      refine Ex_iald12 (c := j) dX12_bath_141 rfl (ma12 M1_) rfl (by omega) ?_
      rw [tP]
      refine Ex_isub dX12_bath_142 rfl ?_
      refine Ex_iret dX12_bath_143 rfl rfl ?_
      exact ⟨rfl, ⟨_, _, _, M1_, g30, g36, (by rw [eg3 _ (by decide) (by decide) (by decide) (by decide)]; exact h23), hσ⟩, f1_⟩
    | some Y2 =>
      rw [hob] at eb
      rw [eb, show (p : Int) + dB (gx xs (p : Int)) + 2 = ((p + (dB (gx xs (p : Int))).toNat + 2 : Nat) : Int) by omega]
      refine Ex_iload_n dX12_bath_113 rfl rfl ?_
      refine Ex_aload_n dX12_bath_114 rfl rfl ?_
      refine Ex_getf dX12_bath_115 rfl (ma0 M) rfl rfl rfl ?_
      rw [h17]
      refine Ex_icmp_ge (t := 150) dX12_bath_118 rfl rfl (by omega) (fun c118 => absurd c118 (by omega)) (fun c118 => ?_)
      refine Ex_aload_n dX12_bath_121 rfl rfl ?_
      refine Ex_iload_n dX12_bath_122 rfl rfl ?_
      refine Ex_inv 2 dX12_bath_123 rfl rfl (Or.inl rfl) rfl rfl rfl rfl (ma0 M) rfl rfl rfl (Ex_post (x12_comesTold (k := j) (i := p) (xs := xs) M hn h6 hO' hB (by omega) hTd s1 s2) ?_)
      rintro r1 h1_ zz
      rw [hob] at zz
      obtain ⟨rfl, ⟨gB, M1_, y0, y6, yg⟩, f1_⟩ := zz
      refine Ex_if_ne (t := 144) dX12_bath_126 rfl rfl (by omega) (fun c126 => ?_) (fun c126 => absurd c126 (by omega))
      refine Ex_iinc (L2 := [_, _, _, _]) dX12_bath_144 rfl rfl rfl ?_
      refine Ex_goto (t := 113) dX12_bath_147 rfl ?_
      refine Ex_post (ih (j + 1) _ f Y2 gB ρ h1_ (by omega) (by omega) hT2 ?_ (obAt_ok hO' s1 s2 hob) M1_ y0 y6 (by rw [yg _ (by decide) (by decide), h17]; omega) (by omega) (by rw [yg _ (by decide) (by decide)]; exact h23) hσ hpk) ?_
      · rw [show xs.length - p - (dB (gx xs (p : Int))).toNat - 2 = xs.length - (p + (dB (gx xs (p : Int))).toNat + 2) by omega] at s4
        exact s4
      · rintro r1 h1 ⟨rfl, y1, y2⟩
        exact ⟨rfl, y1, f1_.trans y2⟩
theorem x12_bath {E : am_E} {d : Nat} {h : Hp} {m n : Nat} {mm hi : Int} {K F T S C : Nat → Int} {σ : Nat → Nat → Int} {hw ck cf rs : Nat → Int} {rx : Nat → List Int} {a : Int}  (I : MI h m (n, mm, K, F, T, S, C) hi σ) (hn6 : n ≤ 6) (hg : Rng n T S C) (hK : ∀ i, i < n → (0 ≤ K i ∧ K i ≤ 7) ∧ (0 ≤ F i ∧ F i ≤ 9)) (hB : E.2 ≤ m) (V : Sv σ hw ck cf rs rx) (ha : (-2147483648 ≤ a ∧ a ≤ 2147483647)) (hm9 : 0 ≤ mm ∧ mm ≤ 999)  : Ex E (d + 7) mX12_bath 0 [.ref m, .int (i32 a), .retAddr 0, .retAddr 0] [] h (fun r1 h1 => r1 = some (.int (i32 (do_bath hw rs rx a (n, mm, K, F, T, S, C)).1)) ∧ (∃ σ2, MI h1 m (do_bath hw rs rx a (n, mm, K, F, T, S, C)).2 hi σ2 ∧ Sv σ2 hw ck cf rs rx ∧ σ2 16 = σ 16) ∧ Fr h h1 m (m + 23)) := by
  have hO : OKS (n, mm, K, F, T, S, C) := ⟨hn6, hg, hK, hm9⟩
  obtain ⟨g, ρ, kp, M, hn, h6, h23, hσ⟩ := I
  have M : MAt h m g K F T S C ρ kp := M
  have hn : g 0 = (n : Int) := hn
  have h6 : g 6 = mm := h6
  have V : Sv ρ hw ck cf rs rx := V.cg hσ
  have h16 : ρ 16 = σ 16 := hσ 16 (Or.inr rfl)
  clear hσ
  have hσ : ∀ j, (6 ≤ j ∧ j ≤ 11) ∨ j = 16 → ρ j = ρ j := fun _ _ => rfl
  by_cases q : (0 ≤ a ∧ a ≤ 7) ∧ hw a.toNat = 2
  · by_cases q2 : rs a.toNat = 0
    · have ea : do_bath hw rs rx a (n, mm, K, F, T, S, C) = do_text (rx a.toNat) (n, mm, K, F, T, S, C) := by unfold do_bath; rw [if_pos q]; exact if_pos q2
      rw [ea]
      obtain ⟨a, rfl⟩ := Int.eq_ofNat_of_zero_le q.1.1
      have q1n : hw a = 2 := q.2
      have q2n : rs a = 0 := q2
      obtain ⟨v6, v3, vk, vr⟩ := V a (by omega)
      obtain ⟨⟨k1, k2, k3⟩, k4, k5, k6⟩ := vr q1n
      show Ex E _ _ _ _ _ _ (fun r1 h1 => r1 = some (.int (i32 (do_text (rx a) (n, mm, K, F, T, S, C)).1)) ∧ (∃ σ2, MI h1 m (do_text (rx a) (n, mm, K, F, T, S, C)).2 hi σ2 ∧ Sv σ2 hw ck cf rs rx ∧ σ2 16 = σ 16) ∧ Fr h h1 m (m + 23))
      refine Ex_aload_n dX12_bath_0 rfl rfl ?_
      refine Ex_iconst dX12_bath_1 rfl ?_
      refine Ex_put12 (k0 := 13) (v := 0) dX12_bath_2 rfl (ma0 M) rfl rfl rfl rfl rfl (by omega) rfl ?_
      refine mg0 M ?_
      intro h1_ M1_ f1_
      refine Ex_aload_n dX12_bath_5 rfl rfl ?_
      refine Ex_iload_n dX12_bath_6 rfl rfl ?_
      refine Ex_inv 2 dX12_bath_7 rfl rfl (Or.inl rfl) rfl rfl rfl rfl (ma0 M1_) rfl rfl rfl (Ex_post (x12_wR M1_ V (by omega)) ?_)
      rintro _ _ ⟨rfl, e0⟩
      obtain rfl := Eq.symm e0
      rw [if_pos ⟨q.1, q.2⟩]
      refine Ex_istore_n (L2 := [_, _, _, _]) dX12_bath_10 rfl rfl rfl ?_
      refine Ex_iload_n dX12_bath_11 rfl rfl ?_
      refine Ex_if_ne (t := 29) dX12_bath_12 rfl rfl (by omega) (fun c12 => absurd c12 (by omega)) (fun c12 => ?_)
      refine Ex_aload_n dX12_bath_15 rfl rfl ?_
      refine Ex_getf dX12_bath_16 rfl (ma0 M1_) rfl rfl rfl ?_
      refine Ex_iload_n dX12_bath_19 rfl rfl ?_
      refine Ex_iald12 (c := a) dX12_bath_20 rfl (ma9 M1_) rfl (by omega) ?_
      rw [k1, q2n]
      refine Ex_if_eq (t := 29) dX12_bath_21 rfl rfl (by omega) (fun c21 => ?_) (fun c21 => absurd c21 (by omega))
      refine Ex_iload_n dX12_bath_29 rfl rfl ?_
      refine Ex_istore_n (L2 := [_, _, _, _]) dX12_bath_30 rfl rfl rfl ?_
      refine Ex_iload_n dX12_bath_31 rfl rfl ?_
      refine Ex_if_ge (t := 37) dX12_bath_32 rfl rfl (by omega) (fun c32 => ?_) (fun c32 => absurd c32 (by omega))
      refine Ex_aload_n dX12_bath_37 rfl rfl ?_
      refine Ex_iload_n dX12_bath_38 rfl rfl ?_
      refine Ex_put12 (k0 := 14) (v := (a : Int)) dX12_bath_39 rfl (ma0 M1_) rfl rfl rfl rfl rfl (by omega) rfl ?_
      refine mg0 M1_ ?_
      intro h2_ M2_ f2_
      refine Ex_aload_n dX12_bath_42 rfl rfl ?_
      refine Ex_iconst dX12_bath_43 rfl ?_
      refine Ex_put12 (k0 := 15) (v := 0) dX12_bath_44 rfl (ma0 M2_) rfl rfl rfl rfl rfl (by omega) rfl ?_
      refine mg0 M2_ ?_
      intro h3_ M3_ f3_
      refine Ex_aload_n dX12_bath_47 rfl rfl ?_
      refine Ex_iconst dX12_bath_48 rfl ?_
      refine Ex_put12 (k0 := 16) (v := 0) dX12_bath_49 rfl (ma0 M3_) rfl rfl rfl rfl rfl (by omega) rfl ?_
      refine mg0 M3_ ?_
      intro h4_ M4_ f4_
      refine Ex_aload_n dX12_bath_52 rfl rfl ?_
      refine Ex_iconst dX12_bath_53 rfl ?_
      refine Ex_put12 (k0 := 17) (v := 0) dX12_bath_54 rfl (ma0 M4_) rfl rfl rfl rfl rfl (by omega) rfl ?_
      refine mg0 M4_ ?_
      intro h5_ M5_ f5_
      refine x12_bath_r (a := a) (xs := rx a) (ρ0 := ρ) hB (by omega) k4 k5 k6 ((rx a).length + 1) 0 0 _ ρ h5_ (by omega) (by omega) (by omega) (fun _ => rfl) (fun z => absurd z (by decide)) M5_ rfl rfl rfl rfl rfl rfl (fun h2 g2 ρ2 z1 z2 z3 z4 z5 => ?_)
      have hn2 : g2 0 = (n : Int) := by rw [z3 _ (by decide) (by decide) (by decide)]; exact hn
      have h62 : g2 6 = mm := by rw [z3 _ (by decide) (by decide) (by decide)]; exact h6
      have h232 : g2 23 = hi := by rw [z3 _ (by decide) (by decide) (by decide)]; exact h23
      have hσ2 : ∀ j, (6 ≤ j ∧ j ≤ 11) ∨ j = 16 → ρ2 j = ρ j := fun j hj => z2.1 j (by omega) (by omega) (by omega)
      rcases z5 with ⟨w1, w2, c, w3, w4, w5⟩ | ⟨w1, w2, w3⟩
      · refine Ex_aload_n dX12_bath_91 rfl rfl ?_
        refine Ex_getf dX12_bath_92 rfl (ma0 z1) rfl rfl rfl ?_
        rw [w1]
        refine Ex_if_eq (t := 107) dX12_bath_95 rfl rfl (by omega) (fun c95 => ?_) (fun c95 => absurd c95 (by omega))
        refine Ex_aload_n dX12_bath_107 rfl rfl ?_
        refine Ex_inv 2 dX12_bath_108 rfl rfl (Or.inl rfl) rfl rfl rfl rfl (ma0 z1) rfl rfl rfl (Ex_post (x12_open z1 hn2 h62 hB) ?_)
        rintro _ h51_ ⟨rfl, ⟨g2_, fo_, M51_, hpk, e2⟩, f51_⟩
        refine Ex_iconst dX12_bath_111 rfl ?_
        refine Ex_istore_n (L2 := [_, _, _, _]) dX12_bath_112 rfl rfl rfl ?_
        refine Ex_post (x12_bath_t (a := (a : Int)) (n0 := n) (mt := mm) (K0 := K) (F0 := F) (T0 := T) (S0 := S) (C0 := C) (hi := hi) (σ := ρ) hB k5 c 0 0 (rx a).length (n, mm, K, F, T, S, C) g2_ _ h51_ (by omega) (by omega) (w5.cg (by rw [fuR_ne (by decide)]) (by rw [fuR_ne (by decide)]) (by rw [fuR_ne (by decide)])) w2 hO M51_ (by rw [e2 _ (by decide) (by decide)]; exact hn2) (by rw [e2 _ (by decide) (by decide)]; exact h62) (by rw [e2 _ (by decide) (by decide)]; exact w3) w4 (by rw [e2 _ (by decide) (by decide)]; exact h232) (fun j hj => by rw [fuR_ne (by omega)]; exact hσ2 j hj) (fun i hi => by rw [fuR_at]; exact hpk i hi)) ?_
        rintro r1 h1 ⟨rfl, y1, y2⟩
        refine ⟨?_, ⟨ρ, ?_, V, h16⟩, ((f1_.trans (f2_.trans (f3_.trans (f4_.trans f5_)))).trans (z4.trans f51_)).trans y2⟩
        · have ea : do_text (rx a) (n, mm, K, F, T, S, C) = _ := if_pos w2
          rw [ea]
          rfl
        · have ea : do_text (rx a) (n, mm, K, F, T, S, C) = _ := if_pos w2
          rw [ea]
          exact y1
      · refine Ex_aload_n dX12_bath_91 rfl rfl ?_
        refine Ex_getf dX12_bath_92 rfl (ma0 z1) rfl rfl rfl ?_
        rw [w1]
        refine Ex_if_eq (t := 107) dX12_bath_95 rfl rfl (by omega) (fun c95 => absurd c95 (by omega)) (fun c95 => ?_)
        refine Ex_sipush dX12_bath_98 rfl (by decide) ?_
        refine Ex_aload_n dX12_bath_101 rfl rfl ?_
        refine Ex_getf dX12_bath_102 rfl (ma0 z1) rfl rfl rfl ?_
        rw [w2]
        refine Ex_isub dX12_bath_105 rfl ?_
        refine Ex_iret dX12_bath_106 rfl rfl ?_
        have ea : do_text (rx a) (n, mm, K, F, T, S, C) = _ := if_neg (show ¬ msh (rx a) 0 (-1) (rx a).length = -1 from fun e => absurd w3 (by rw [Nat.sub_zero, e]; decide))
        rw [ea]
        exact ⟨rfl, ⟨ρ, ⟨g2, ρ2, _, z1, hn2, h62, h232, hσ2⟩, V, h16⟩, ((f1_.trans (f2_.trans (f3_.trans (f4_.trans f5_)))).trans z4)⟩
    · have ea : do_bath hw rs rx a (n, mm, K, F, T, S, C) = (-12, (n, mm, K, F, T, S, C)) := by unfold do_bath; rw [if_pos q]; exact if_neg q2
      rw [ea]
      obtain ⟨a, rfl⟩ := Int.eq_ofNat_of_zero_le q.1.1
      have q1n : hw a = 2 := q.2
      have q2n : ¬ rs a = 0 := q2
      obtain ⟨v6, v3, vk, vr⟩ := V a (by omega)
      obtain ⟨⟨k1, k2, k3⟩, k4, k5, k6⟩ := vr q1n
      refine Ex_aload_n dX12_bath_0 rfl rfl ?_
      refine Ex_iconst dX12_bath_1 rfl ?_
      refine Ex_put12 (k0 := 13) (v := 0) dX12_bath_2 rfl (ma0 M) rfl rfl rfl rfl rfl (by omega) rfl ?_
      refine mg0 M ?_
      intro h1_ M1_ f1_
      refine Ex_aload_n dX12_bath_5 rfl rfl ?_
      refine Ex_iload_n dX12_bath_6 rfl rfl ?_
      refine Ex_inv 2 dX12_bath_7 rfl rfl (Or.inl rfl) rfl rfl rfl rfl (ma0 M1_) rfl rfl rfl (Ex_post (x12_wR M1_ V (by omega)) ?_)
      rintro _ _ ⟨rfl, e0⟩
      obtain rfl := Eq.symm e0
      rw [if_pos ⟨q.1, q.2⟩]
      refine Ex_istore_n (L2 := [_, _, _, _]) dX12_bath_10 rfl rfl rfl ?_
      refine Ex_iload_n dX12_bath_11 rfl rfl ?_
      refine Ex_if_ne (t := 29) dX12_bath_12 rfl rfl (by omega) (fun c12 => absurd c12 (by omega)) (fun c12 => ?_)
      refine Ex_aload_n dX12_bath_15 rfl rfl ?_
      refine Ex_getf dX12_bath_16 rfl (ma0 M1_) rfl rfl rfl ?_
      refine Ex_iload_n dX12_bath_19 rfl rfl ?_
      refine Ex_iald12 (c := a) dX12_bath_20 rfl (ma9 M1_) rfl (by omega) ?_
      rw [k1]
      refine Ex_if_eq (t := 29) dX12_bath_21 rfl rfl (by omega) (fun c21 => absurd c21 (by omega)) (fun c21 => ?_)
      refine Ex_bipush dX12_bath_24 rfl (by decide) ?_
      refine Ex_goto (t := 30) dX12_bath_26 rfl ?_
      refine Ex_istore_n (L2 := [_, _, _, _]) dX12_bath_30 rfl rfl rfl ?_
      refine Ex_iload_n dX12_bath_31 rfl rfl ?_
      refine Ex_if_ge (t := 37) dX12_bath_32 rfl rfl (by omega) (fun c32 => absurd c32 (by omega)) (fun c32 => ?_)
      refine Ex_iload_n dX12_bath_35 rfl rfl ?_
      refine Ex_iret dX12_bath_36 rfl rfl ?_
      exact ⟨rfl, ⟨_, ⟨_, _, _, M1_, hn, h6, h23, fun _ _ => rfl⟩, V, h16⟩, f1_⟩
  · have gw := why_r (hw := hw) (a := a)
    have ea : do_bath hw rs rx a (n, mm, K, F, T, S, C) = (why hw a, (n, mm, K, F, T, S, C)) := by unfold do_bath; exact if_neg q
    rw [ea]
    refine Ex_aload_n dX12_bath_0 rfl rfl ?_
    refine Ex_iconst dX12_bath_1 rfl ?_
    refine Ex_put12 (k0 := 13) (v := 0) dX12_bath_2 rfl (ma0 M) rfl rfl rfl rfl rfl (by omega) rfl ?_
    refine mg0 M ?_
    intro h1_ M1_ f1_
    refine Ex_aload_n dX12_bath_5 rfl rfl ?_
    refine Ex_iload_n dX12_bath_6 rfl rfl ?_
    refine Ex_inv 2 dX12_bath_7 rfl rfl (Or.inl rfl) rfl rfl rfl rfl (ma0 M1_) rfl rfl rfl (Ex_post (x12_wR M1_ V (by omega)) ?_)
    rintro _ _ ⟨rfl, e0⟩
    obtain rfl := Eq.symm e0
    rw [if_neg q]
    refine Ex_istore_n (L2 := [_, _, _, _]) dX12_bath_10 rfl rfl rfl ?_
    refine Ex_iload_n dX12_bath_11 rfl rfl ?_
    refine Ex_if_ne (t := 29) dX12_bath_12 rfl rfl (by omega) (fun c12 => ?_) (fun c12 => absurd c12 (by omega))
    refine Ex_iload_n dX12_bath_29 rfl rfl ?_
    refine Ex_istore_n (L2 := [_, _, _, _]) dX12_bath_30 rfl rfl rfl ?_
    refine Ex_iload_n dX12_bath_31 rfl rfl ?_
    refine Ex_if_ge (t := 37) dX12_bath_32 rfl rfl (by omega) (fun c32 => absurd c32 (by omega)) (fun c32 => ?_)
    refine Ex_iload_n dX12_bath_35 rfl rfl ?_
    refine Ex_iret dX12_bath_36 rfl rfl ?_
    exact ⟨rfl, ⟨_, ⟨_, _, _, M1_, hn, h6, h23, fun _ _ => rfl⟩, V, h16⟩, f1_⟩
