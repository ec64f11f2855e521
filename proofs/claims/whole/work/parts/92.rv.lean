/-! the reference: beside (by program: wip/whole/spec_rv.py) -/
theorem x12_bes_l {E : am_E} {d m n : Nat} {i0 : Int} {g K F T S C : Nat → Int} {kp : Value} {Q : Option Value → Hp → Prop} (hn : g 0 = (n : Int)) (hn6 : n ≤ 6) (hK : ∀ i, i < n → (0 ≤ K i ∧ K i ≤ 7) ∧ (0 ≤ F i ∧ F i ≤ 9)) (hB : E.2 ≤ m) : ∀ (r k : Nat) (bi bs : Int) (st : BO) (ρ : Nat → Nat → Int) (v6 v7 : Value) (h : Hp), k + r = fct n → BS n k bi bs st → MAt h m g K F T S C ρ kp → (∀ (bi2 bs2 : Int) (ρ2 : Nat → Nat → Int) (v6 v7 : Value) (h2 : Hp), BS n (fct n) bi2 bs2 (((lvs n n 0 []).drop k).foldl (stL (fun j => sp_passes (K j))) st) → MAt h2 m g K F T S C ρ2 kp → (∀ j, j ≠ 21 → ρ2 j = ρ j) → Fr h h2 m (m + 23) → Ex E (d + 2) mX12_beside 141 [.ref m, .int (i32 i0), .int (i32 bi2), .int (i32 bs2), .int (i32 ((fct n : Nat) : Int)), .int (i32 ((fct n : Nat) : Int)), v6, v7] [] h2 Q) → Ex E (d + 2) mX12_beside 41 [.ref m, .int (i32 i0), .int (i32 bi), .int (i32 bs), .int (i32 ((fct n : Nat) : Int)), .int (i32 (k : Int)), v6, v7] [] h Q := by
  have hP : ∀ i, 0 ≤ (fun j => sp_passes (K j)) i ∧ (fun j => sp_passes (K j)) i ≤ 3 := fun i => sp_passes_r
  have hf := fct_r n hn6
  intro r
  induction r with
  | zero =>
    intro k bi bs st ρ v6 v7 h hk B M kont
    obtain rfl : k = fct n := by omega
    rw [List.drop_eq_nil_of_le (by rw [ordr_len hn6]; exact Nat.le_refl _)] at kont
    refine Ex_iload dX12_beside_41 rfl rfl ?_
    refine Ex_iload dX12_beside_43 rfl rfl ?_
    refine Ex_icmp_ge (t := 141) dX12_beside_45 rfl rfl (by omega) (fun c45 => ?_) (fun c45 => absurd c45 (by omega))
    exact kont bi bs ρ v6 v7 h B M (fun _ _ => rfl) (Fr.rf _ _ _)
  | succ r ih =>
    intro k bi bs st ρ v6 v7 h hk B M kont
    have hkf : k < fct n := by omega
    have hlay := ordr_lay hn6 hkf
    obtain ⟨hl1, hl2⟩ := layO_v _ _ _ hlay
    rw [ordr_drop hn6 hkf, List.foldl_cons] at kont
    have hs := sumL_r hP (l := ordr n k) (by omega)
    have B2 := B.step hP hn6 hkf
    have hbs : -1 ≤ bs ∧ bs ≤ 54 := by
      rcases B.2 with ⟨c1, c2, c3⟩ | ⟨c1, c2, c3, c4⟩ <;> omega
    have esum : (0 : Int) + sm (fun i => (fun j => sp_passes (K j)) ((ordr n k).getD i 0) * (fun j => sp_passes (K j)) ((ordr n k).getD (i + 1) 0)) 0 (n - 1) = sumL (fun j => sp_passes (K j)) (ordr n k) := by rw [Int.zero_add]; unfold sumL; rw [hl1]
    refine Ex_iload dX12_beside_41 rfl rfl ?_
    refine Ex_iload dX12_beside_43 rfl rfl ?_
    refine Ex_icmp_ge (t := 141) dX12_beside_45 rfl rfl (by omega) (fun c45 => absurd c45 (by omega)) (fun c45 => ?_)
    refine Ex_aload_n dX12_beside_48 rfl rfl ?_
    refine Ex_iload dX12_beside_49 rfl rfl ?_
    refine Ex_aload_n dX12_beside_51 rfl rfl ?_
    refine Ex_getf dX12_beside_52 rfl (ma0 M) rfl rfl rfl ?_
    rw [hn]
    refine Ex_inv 2 dX12_beside_55 rfl rfl (Or.inl rfl) rfl rfl rfl rfl (ma0 M) rfl rfl rfl (Ex_post (x12_layOrder M hn6 hB (by omega) hlay) ?_)
    rintro _ h1_ ⟨rfl, ⟨f2, M1_, hf2⟩, f1_⟩
    refine Ex_iconst dX12_beside_58 rfl ?_
    refine Ex_istore (L2 := [_, _, _, _, _, _, _, _]) dX12_beside_59 rfl rfl rfl ?_
    refine Ex_iconst dX12_beside_61 rfl ?_
    refine Ex_istore (L2 := [_, _, _, _, _, _, _, _]) dX12_beside_62 rfl rfl rfl ?_
    refine x12_bes_i M1_ hn hn6 hK hl2 (fun i hi => by rw [fuR_at]; exact hf2 i hi) (n - 1) 0 0 (by omega) (fun z => ?_)
    rw [esum]
    by_cases q : bs < sumL (fun j => sp_passes (K j)) (ordr n k)
    · rw [if_pos q, if_pos q] at B2
      refine Ex_iload dX12_beside_109 rfl rfl ?_
      refine Ex_iload_n dX12_beside_111 rfl rfl ?_
      refine Ex_icmp_le (t := 120) dX12_beside_112 rfl rfl (by omega) (fun c112 => absurd c112 (by omega)) (fun c112 => ?_)
      refine Ex_iload dX12_beside_115 rfl rfl ?_
      refine Ex_goto (t := 121) dX12_beside_117 rfl ?_
      refine Ex_istore_n (L2 := [_, _, _, _, _, _, _, _]) dX12_beside_121 rfl rfl rfl ?_
      refine Ex_iload dX12_beside_122 rfl rfl ?_
      refine Ex_iload_n dX12_beside_124 rfl rfl ?_
      refine Ex_icmp_le (t := 133) dX12_beside_125 rfl rfl (by omega) (fun c125 => absurd c125 (by omega)) (fun c125 => ?_)
      refine Ex_iload dX12_beside_128 rfl rfl ?_
      refine Ex_goto (t := 134) dX12_beside_130 rfl ?_
      refine Ex_istore_n (L2 := [_, _, _, _, _, _, _, _]) dX12_beside_134 rfl rfl rfl ?_
      refine Ex_iinc (L2 := [_, _, _, _, _, _, _, _]) dX12_beside_135 rfl rfl rfl ?_
      refine Ex_goto (t := 41) dX12_beside_138 rfl ?_
      refine ih (k + 1) _ _ _ _ _ _ h1_ (by omega) B2 M1_ (fun bi2 bs2 ρ2 v6 v7 h2 y1 y2 y3 y4 => kont bi2 bs2 ρ2 v6 v7 h2 y1 y2 (fun j hj => by rw [y3 j hj, fuR_ne hj]) (f1_.trans y4))
    · rw [if_neg q, if_neg q] at B2
      refine Ex_iload dX12_beside_109 rfl rfl ?_
      refine Ex_iload_n dX12_beside_111 rfl rfl ?_
      refine Ex_icmp_le (t := 120) dX12_beside_112 rfl rfl (by omega) (fun c112 => ?_) (fun c112 => absurd c112 (by omega))
      refine Ex_iload_n dX12_beside_120 rfl rfl ?_
      refine Ex_istore_n (L2 := [_, _, _, _, _, _, _, _]) dX12_beside_121 rfl rfl rfl ?_
      refine Ex_iload dX12_beside_122 rfl rfl ?_
      refine Ex_iload_n dX12_beside_124 rfl rfl ?_
      refine Ex_icmp_le (t := 133) dX12_beside_125 rfl rfl (by omega) (fun c125 => ?_) (fun c125 => absurd c125 (by omega))
      refine Ex_iload_n dX12_beside_133 rfl rfl ?_
      refine Ex_istore_n (L2 := [_, _, _, _, _, _, _, _]) dX12_beside_134 rfl rfl rfl ?_
      refine Ex_iinc (L2 := [_, _, _, _, _, _, _, _]) dX12_beside_135 rfl rfl rfl ?_
      refine Ex_goto (t := 41) dX12_beside_138 rfl ?_
      refine ih (k + 1) _ _ _ _ _ _ h1_ (by omega) B2 M1_ (fun bi2 bs2 ρ2 v6 v7 h2 y1 y2 y3 y4 => kont bi2 bs2 ρ2 v6 v7 h2 y1 y2 (fun j hj => by rw [y3 j hj, fuR_ne hj]) (f1_.trans y4))
theorem x12_beside {E : am_E} {d : Nat} {h : Hp} {m n : Nat} {mm hi : Int} {K F T S C : Nat → Int} {σ : Nat → Nat → Int} {p : Int} {bo : Nat → Int}  (I : MI h m (n, mm, K, F, T, S, C) hi σ) (hn6 : n ≤ 6) (hg : Rng n T S C) (hK : ∀ i, i < n → (0 ≤ K i ∧ K i ≤ 7) ∧ (0 ≤ F i ∧ F i ≤ 9)) (hB : E.2 ≤ m) (hp : (-2147483648 ≤ p ∧ p ≤ 2147483647))  : Ex E (d + 2) mX12_beside 0 [.ref m, .int (i32 p), .retAddr 0, .retAddr 0, .retAddr 0, .retAddr 0, .retAddr 0, .retAddr 0] [] h (fun r1 h1 => r1 = some (.int (i32 (an_beside (fun j => sp_passes (K j)) n bo p))) ∧ MI h1 m (n, mm, K, F, T, S, C) hi σ ∧ Fr h h1 m (m + 23)) := by
  obtain ⟨g, ρ, kp, M, hn, h6, h23, hσ⟩ := I
  have M : MAt h m g K F T S C ρ kp := M
  have hn : g 0 = (n : Int) := hn
  have h6 : g 6 = mm := h6
  by_cases q : -1 ≤ p ∧ p < (n : Int)
  · have ea : an_beside (fun j => sp_passes (K j)) n bo p = (if p < 0 then (arr (fun j => sp_passes (K j)) n n 0 (fun _ => 0) 0 (-1, bo)).1 else (arr (fun j => sp_passes (K j)) n n 0 (fun _ => 0) 0 (-1, bo)).2 p.toNat) := if_pos q
    rw [ea]
    refine Ex_aload_n dX12_beside_0 rfl rfl ?_
    refine Ex_iconst dX12_beside_1 rfl ?_
    refine Ex_put12 (k0 := 13) (v := 0) dX12_beside_2 rfl (ma0 M) rfl rfl rfl rfl rfl (by omega) rfl ?_
    refine mg0 M ?_
    intro h1_ M1_ f1_
    refine Ex_iload_n dX12_beside_5 rfl rfl ?_
    refine Ex_i2l dX12_beside_6 rfl (by omega) ?_
    refine Ex_ldc2 (z := (-1)) dX12_beside_7 rfl rfl ?_
    refine Ex_aload_n dX12_beside_10 rfl rfl ?_
    refine Ex_getf dX12_beside_11 rfl (ma0 M1_) rfl rfl rfl ?_
    rw [show (fu g 13 0) 0 = g 0 from rfl]
    refine Ex_iconst dX12_beside_14 rfl ?_
    refine Ex_isub dX12_beside_15 rfl ?_
    refine Ex_i2l dX12_beside_16 rfl (by omega) ?_
    refine Ex_stat 0 dX12_beside_17 rfl rfl (Or.inl rfl) rfl rfl rfl rfl rfl rfl (Ex_post (x12_in (by omega) (by omega) (by omega)) ?_)
    rintro _ _ ⟨rfl, e0⟩
    obtain rfl := Eq.symm e0
    refine Ex_if_ne (t := 25) dX12_beside_20 rfl rfl (by omega) (fun c20 => ?_) (fun c20 => absurd c20 (by omega))
    refine Ex_iconst dX12_beside_25 rfl ?_
    refine Ex_istore_n (L2 := [_, _, _, _, _, _, _, _]) dX12_beside_26 rfl rfl rfl ?_
    refine Ex_iconst dX12_beside_27 rfl ?_
    refine Ex_istore_n (L2 := [_, _, _, _, _, _, _, _]) dX12_beside_28 rfl rfl rfl ?_
    refine Ex_aload_n dX12_beside_29 rfl rfl ?_
    refine Ex_getf dX12_beside_30 rfl (ma0 M1_) rfl rfl rfl ?_
    rw [show (fu g 13 0) 0 = g 0 from rfl]
    rw [hn]
    refine Ex_stat 0 dX12_beside_33 rfl rfl (Or.inl rfl) rfl rfl rfl rfl rfl rfl (Ex_post (x12_ordersOf hn6) ?_)
    rintro _ _ ⟨rfl, e0⟩
    obtain rfl := Eq.symm e0
    refine Ex_istore (L2 := [_, _, _, _, _, _, _, _]) dX12_beside_36 rfl rfl rfl ?_
    refine Ex_iconst dX12_beside_38 rfl ?_
    refine Ex_istore (L2 := [_, _, _, _, _, _, _, _]) dX12_beside_39 rfl rfl rfl ?_
    have hf := fct_r n hn6
    have efold : arr (fun j => sp_passes (K j)) n n 0 (fun _ => 0) 0 (-1, bo) = ((lvs n n 0 []).drop 0).foldl (stL (fun j => sp_passes (K j))) (-1, bo) := arr_fold (P := (fun j => sp_passes (K j))) n 0 [] (-1, bo) (by rw [List.length_nil, Nat.zero_add])
    rw [efold]
    refine x12_bes_l (g := (fu g 13 0)) hn hn6 hK hB (fct n) 0 0 (-1) (-1, bo) ρ _ _ h1_ (by omega) ⟨rfl, Or.inl ⟨rfl, rfl, rfl⟩⟩ M1_ (fun bi2 bs2 ρ2 v6 v7 h2 y1 y2 y3 y4 => ?_)
    obtain ⟨z1, z2⟩ := y1
    rcases z2 with ⟨c1, c2, c3⟩ | ⟨c1, c2, c3, b, c4, c5, c6⟩
    · omega
    subst c4
    have hlay := ordr_lay hn6 c5
    obtain ⟨hl1, hl2⟩ := layO_v _ _ _ hlay
    have hσ2 : ∀ f j, (6 ≤ j ∧ j ≤ 11) ∨ j = 16 → fuR ρ2 21 f j = σ j := fun f j hj => by rw [fuR_ne (by omega), y3 j (by omega)]; exact hσ j hj
    rw [z1, c6]
    by_cases q1 : p < 0
    · rw [if_pos q1]
      refine Ex_aload_n dX12_beside_141 rfl rfl ?_
      refine Ex_iload_n dX12_beside_142 rfl rfl ?_
      refine Ex_aload_n dX12_beside_143 rfl rfl ?_
      refine Ex_getf dX12_beside_144 rfl (ma0 y2) rfl rfl rfl ?_
      rw [show fu g 13 0 0 = (n : Int) from hn]
      refine Ex_inv 2 dX12_beside_147 rfl rfl (Or.inl rfl) rfl rfl rfl rfl (ma0 y2) rfl rfl rfl (Ex_post (x12_layOrder y2 hn6 hB (by omega) hlay) ?_)
      rintro _ h51_ ⟨rfl, ⟨f2, M51_, hf2⟩, f51_⟩
      refine Ex_iload_n dX12_beside_150 rfl rfl ?_
      refine Ex_if_ge (t := 158) dX12_beside_151 rfl rfl (by omega) (fun c151 => absurd c151 (by omega)) (fun c151 => ?_)
      refine Ex_iload_n dX12_beside_154 rfl rfl ?_
      refine Ex_goto (t := 164) dX12_beside_155 rfl ?_
      refine Ex_iret dX12_beside_164 rfl rfl ?_
      exact ⟨rfl, ⟨_, _, _, M51_, hn, h6, h23, hσ2 _⟩, (f1_.trans (y4.trans f51_))⟩
    · rw [if_neg q1]
      refine Ex_aload_n dX12_beside_141 rfl rfl ?_
      refine Ex_iload_n dX12_beside_142 rfl rfl ?_
      refine Ex_aload_n dX12_beside_143 rfl rfl ?_
      refine Ex_getf dX12_beside_144 rfl (ma0 y2) rfl rfl rfl ?_
      rw [show fu g 13 0 0 = (n : Int) from hn]
      refine Ex_inv 2 dX12_beside_147 rfl rfl (Or.inl rfl) rfl rfl rfl rfl (ma0 y2) rfl rfl rfl (Ex_post (x12_layOrder y2 hn6 hB (by omega) hlay) ?_)
      rintro _ h51_ ⟨rfl, ⟨f2, M51_, hf2⟩, f51_⟩
      refine Ex_iload_n dX12_beside_150 rfl rfl ?_
      refine Ex_if_ge (t := 158) dX12_beside_151 rfl rfl (by omega) (fun c151 => ?_) (fun c151 => absurd c151 (by omega))
      refine Ex_aload_n dX12_beside_158 rfl rfl ?_
      refine Ex_getf dX12_beside_159 rfl (ma0 M51_) rfl rfl rfl ?_
      refine Ex_iload_n dX12_beside_162 rfl rfl ?_
      refine Ex_iald12 (c := p.toNat) dX12_beside_163 rfl (ma21 M51_) (by omega) (by omega) ?_
      refine Ex_iret dX12_beside_164 rfl rfl ?_
      rw [fuR_at, hf2 p.toNat (by omega)]
      exact ⟨rfl, ⟨_, _, _, M51_, hn, h6, h23, hσ2 _⟩, (f1_.trans (y4.trans f51_))⟩
  · have ea : an_beside (fun j => sp_passes (K j)) n bo p = -1 := if_neg q
    rw [ea]
    refine Ex_aload_n dX12_beside_0 rfl rfl ?_
    refine Ex_iconst dX12_beside_1 rfl ?_
    refine Ex_put12 (k0 := 13) (v := 0) dX12_beside_2 rfl (ma0 M) rfl rfl rfl rfl rfl (by omega) rfl ?_
    refine mg0 M ?_
    intro h1_ M1_ f1_
    refine Ex_iload_n dX12_beside_5 rfl rfl ?_
    refine Ex_i2l dX12_beside_6 rfl (by omega) ?_
    refine Ex_ldc2 (z := (-1)) dX12_beside_7 rfl rfl ?_
    refine Ex_aload_n dX12_beside_10 rfl rfl ?_
    refine Ex_getf dX12_beside_11 rfl (ma0 M1_) rfl rfl rfl ?_
    rw [show (fu g 13 0) 0 = g 0 from rfl]
    refine Ex_iconst dX12_beside_14 rfl ?_
    refine Ex_isub dX12_beside_15 rfl ?_
    refine Ex_i2l dX12_beside_16 rfl (by omega) ?_
    refine Ex_stat 0 dX12_beside_17 rfl rfl (Or.inl rfl) rfl rfl rfl rfl rfl rfl (Ex_post (x12_in (by omega) (by omega) (by omega)) ?_)
    rintro _ _ ⟨rfl, e0⟩
    obtain rfl := Eq.symm e0
    refine Ex_if_ne (t := 25) dX12_beside_20 rfl rfl (by omega) (fun c20 => absurd c20 (by omega)) (fun c20 => ?_)
    refine Ex_iconst dX12_beside_23 rfl ?_
    refine Ex_iret dX12_beside_24 rfl rfl ?_
    exact ⟨rfl, ⟨_, _, _, M1_, hn, h6, h23, hσ⟩, f1_⟩
