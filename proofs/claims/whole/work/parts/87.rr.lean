/-! the reference: alone, neverHeld, costs (by program: wip/whole/spec_rr.py) -/
theorem fl_v {k f : Int} {fw q : Nat} : ∀ (j n : Nat), fl k f fw q n j = -4 ∨ 0 ≤ fl k f fw q n j
  | 0, n => Or.inl rfl
  | j + 1, n => by
    simp only [fl]
    split
    · omega
    · exact fl_v j (n + 1)
theorem alo_v {k f : Int} {fw : Nat} {t s : Int} : alo k f fw t s = -4 ∨ 0 ≤ alo k f fw t s := fl_v 61 0
theorem cl_id {t : Int} (h : 0 ≤ t ∧ t ≤ 20) : sp_cl t = t := by unfold sp_cl; omega
theorem x12_aloneFrom {E : am_E} {d : Nat} {h : Hp} {m n : Nat} {g K F T S C : Nat → Int} {ρ : Nat → Nat → Int} {kp : Value} {c fw : Nat} {t : Int}  (M : MAt h m g K F T S C ρ kp) (hn6 : n ≤ 6) (hg : Rng n T S C) (hK : ∀ i, i < n → (0 ≤ K i ∧ K i ≤ 7) ∧ (0 ≤ F i ∧ F i ≤ 9)) (hc : c < n) (hT : TX (K c) (F c) fw (ρ 17)) (ht : -100 ≤ t ∧ t ≤ 100)  : Ex E (d + 1) mX12_aloneFrom 0 [.ref m, .int (i32 (c : Int)), .int (i32 t), .retAddr 0] [] h (fun r1 h1 => r1 = some (.int (i32 (alo (K c) (F c) fw (sp_cl t) (S c)))) ∧ h1 = h) := by
  have hgc := hg c hc
  have hKc := hK c hc
  have hcl := sp_cl_r t
  obtain ⟨x, hx⟩ : ∃ x, x = (21 * S c + sp_cl t).toNat := ⟨_, rfl⟩
  have hx2 : x < 168 := by omega
  have e : alo (K c) (F c) fw (sp_cl t) (S c) = if ρ 17 x ≤ 60 then ρ 17 x else -4 := by rw [hx]; exact hT.few hKc.2 (by omega)
  have b1 := hT.1.1 x hx2
  rw [e]
  by_cases q : ρ 17 x ≤ 60
  · rw [if_pos q]
    refine Ex_aload_n dX12_aloneFrom_0 rfl rfl ?_
    refine Ex_getf dX12_aloneFrom_1 rfl (ma0 M) rfl rfl rfl ?_
    refine Ex_bipush dX12_aloneFrom_4 rfl (by decide) ?_
    refine Ex_aload_n dX12_aloneFrom_6 rfl rfl ?_
    refine Ex_getf dX12_aloneFrom_7 rfl (ma0 M) rfl rfl rfl ?_
    refine Ex_iload_n dX12_aloneFrom_10 rfl rfl ?_
    refine Ex_iald12 (c := c) dX12_aloneFrom_11 rfl (ma4 M) rfl (by omega) ?_
    refine Ex_imul dX12_aloneFrom_12 rfl ?_
    refine Ex_iload_n dX12_aloneFrom_13 rfl rfl ?_
    refine Ex_bipush dX12_aloneFrom_14 rfl (by decide) ?_
    refine Ex_stat 0 dX12_aloneFrom_16 rfl rfl (Or.inl rfl) rfl rfl rfl rfl rfl rfl (Ex_post (x12_held (by omega) (by omega)) ?_)
    rintro _ _ ⟨rfl, e0⟩
    obtain rfl := Eq.symm e0
    rw [hl_cl]
    refine Ex_iadd dX12_aloneFrom_19 rfl ?_
    refine Ex_iald12 (c := x) dX12_aloneFrom_20 rfl (ma17 M) (by omega) (by omega) ?_
    refine Ex_istore_n (L2 := [_, _, _, _]) dX12_aloneFrom_21 rfl rfl rfl ?_
    refine Ex_iload_n dX12_aloneFrom_22 rfl rfl ?_
    refine Ex_bipush dX12_aloneFrom_23 rfl (by decide) ?_
    refine Ex_icmp_le (t := 33) dX12_aloneFrom_25 rfl rfl (by omega) (fun c25 => ?_) (fun c25 => absurd c25 (by omega))
    refine Ex_iload_n dX12_aloneFrom_33 rfl rfl ?_
    refine Ex_iret dX12_aloneFrom_34 rfl rfl ?_
    exact ⟨rfl, rfl⟩
  · rw [if_neg q]
    refine Ex_aload_n dX12_aloneFrom_0 rfl rfl ?_
    refine Ex_getf dX12_aloneFrom_1 rfl (ma0 M) rfl rfl rfl ?_
    refine Ex_bipush dX12_aloneFrom_4 rfl (by decide) ?_
    refine Ex_aload_n dX12_aloneFrom_6 rfl rfl ?_
    refine Ex_getf dX12_aloneFrom_7 rfl (ma0 M) rfl rfl rfl ?_
    refine Ex_iload_n dX12_aloneFrom_10 rfl rfl ?_
    refine Ex_iald12 (c := c) dX12_aloneFrom_11 rfl (ma4 M) rfl (by omega) ?_
    refine Ex_imul dX12_aloneFrom_12 rfl ?_
    refine Ex_iload_n dX12_aloneFrom_13 rfl rfl ?_
    refine Ex_bipush dX12_aloneFrom_14 rfl (by decide) ?_
    refine Ex_stat 0 dX12_aloneFrom_16 rfl rfl (Or.inl rfl) rfl rfl rfl rfl rfl rfl (Ex_post (x12_held (by omega) (by omega)) ?_)
    rintro _ _ ⟨rfl, e0⟩
    obtain rfl := Eq.symm e0
    rw [hl_cl]
    refine Ex_iadd dX12_aloneFrom_19 rfl ?_
    refine Ex_iald12 (c := x) dX12_aloneFrom_20 rfl (ma17 M) (by omega) (by omega) ?_
    refine Ex_istore_n (L2 := [_, _, _, _]) dX12_aloneFrom_21 rfl rfl rfl ?_
    refine Ex_iload_n dX12_aloneFrom_22 rfl rfl ?_
    refine Ex_bipush dX12_aloneFrom_23 rfl (by decide) ?_
    refine Ex_icmp_le (t := 33) dX12_aloneFrom_25 rfl rfl (by omega) (fun c25 => absurd c25 (by omega)) (fun c25 => ?_)
    refine Ex_bipush dX12_aloneFrom_28 rfl (by decide) ?_
    refine Ex_goto (t := 34) dX12_aloneFrom_30 rfl ?_
    refine Ex_iret dX12_aloneFrom_34 rfl rfl ?_
    exact ⟨rfl, rfl⟩
theorem x12_stateOf {E : am_E} {d : Nat} {h : Hp} {m n : Nat} {g K F T S C : Nat → Int} {ρ : Nat → Nat → Int} {kp : Value} {c : Nat}  (M : MAt h m g K F T S C ρ kp) (hn6 : n ≤ 6) (hg : Rng n T S C) (hc : c < n)  : Ex E d mX12_stateOf 0 [.ref m, .int (i32 (c : Int))] [] h (fun r1 h1 => r1 = some (.int (i32 (21 * S c + T c))) ∧ h1 = h) := by
  have hgc := hg c hc
  refine Ex_bipush dX12_stateOf_0 rfl (by decide) ?_
  refine Ex_aload_n dX12_stateOf_2 rfl rfl ?_
  refine Ex_getf dX12_stateOf_3 rfl (ma0 M) rfl rfl rfl ?_
  refine Ex_iload_n dX12_stateOf_6 rfl rfl ?_
  refine Ex_iald12 (c := c) dX12_stateOf_7 rfl (ma4 M) (by omega) (by omega) ?_
  refine Ex_imul dX12_stateOf_8 rfl ?_
  refine Ex_aload_n dX12_stateOf_9 rfl rfl ?_
  refine Ex_getf dX12_stateOf_10 rfl (ma0 M) rfl rfl rfl ?_
  refine Ex_iload_n dX12_stateOf_13 rfl rfl ?_
  refine Ex_iald12 (c := c) dX12_stateOf_14 rfl (ma3 M) (by omega) (by omega) ?_
  refine Ex_iadd dX12_stateOf_15 rfl ?_
  refine Ex_iret dX12_stateOf_16 rfl rfl ?_
  exact ⟨rfl, rfl⟩
theorem x12_neverHeld {E : am_E} {d : Nat} {h : Hp} {m n : Nat} {mm hi : Int} {K F T S C : Nat → Int} {σ : Nat → Nat → Int} {c : Int}  (I : MI h m (n, mm, K, F, T, S, C) hi σ) (hn6 : n ≤ 6) (hg : Rng n T S C) (hK : ∀ i, i < n → (0 ≤ K i ∧ K i ≤ 7) ∧ (0 ≤ F i ∧ F i ≤ 9)) (hB : E.2 ≤ m) (hc : (-2147483648 ≤ c ∧ c ≤ 2147483647))  : Ex E (d + 4) mX12_neverHeld 0 [.ref m, .int (i32 c)] [] h (fun r1 h1 => r1 = some (.int (i32 (an_never n K F T S c))) ∧ MI h1 m (n, mm, K, F, T, S, C) hi σ ∧ Fr h h1 m (m + 23)) := by
  obtain ⟨g, ρ, kp, M, hn, h6, h23, hσ⟩ := I
  have M : MAt h m g K F T S C ρ kp := M
  have hn : g 0 = (n : Int) := hn
  have h6 : g 6 = mm := h6
  by_cases q : 0 ≤ c ∧ c < (n : Int)
  · have ea : an_never n K F T S c = alo (K c.toNat) (F c.toNat) 1 (T c.toNat) (S c.toNat) := if_pos q
    rw [ea]
    obtain ⟨c, rfl⟩ := Int.eq_ofNat_of_zero_le (show 0 ≤ c by omega)
    have hc : c < n := by omega
    have hgc := hg c hc
    have hKc := hK c hc
    simp only [Int.toNat_natCast]
    refine Ex_aload_n dX12_neverHeld_0 rfl rfl ?_
    refine Ex_iconst dX12_neverHeld_1 rfl ?_
    refine Ex_put12 (k0 := 13) (v := 0) dX12_neverHeld_2 rfl (ma0 M) rfl rfl rfl rfl rfl (by omega) rfl ?_
    refine mg0 M ?_
    intro h1_ M1_ f1_
    refine Ex_aload_n dX12_neverHeld_5 rfl rfl ?_
    refine Ex_iload_n dX12_neverHeld_6 rfl rfl ?_
    refine Ex_inv 2 dX12_neverHeld_7 rfl rfl (Or.inl rfl) rfl rfl rfl rfl (ma0 M1_) rfl rfl rfl (Ex_post (x12_isChild M1_ hn hn6 (by omega)) ?_)
    rintro _ _ ⟨rfl, e0⟩
    obtain rfl := Eq.symm e0
    refine Ex_if_ne (t := 15) dX12_neverHeld_10 rfl rfl (by omega) (fun c10 => ?_) (fun c10 => absurd c10 (by omega))
    refine Ex_aload_n dX12_neverHeld_15 rfl rfl ?_
    refine Ex_iload_n dX12_neverHeld_16 rfl rfl ?_
    refine Ex_iconst dX12_neverHeld_17 rfl ?_
    refine Ex_inv 2 dX12_neverHeld_18 rfl rfl (Or.inl rfl) rfl rfl rfl rfl (ma0 M1_) rfl rfl rfl (Ex_post (x12_layFewest (fw := 1) M1_ hn6 hK hB hc (by omega)) ?_)
    rintro _ h2_ ⟨rfl, ⟨d9, hX, M2_⟩, f2_⟩
    have hX : TX (K c) (F c) 1 (fuR ρ 17 d9 17) := by rw [fuR_at]; exact hX
    refine Ex_aload_n dX12_neverHeld_21 rfl rfl ?_
    refine Ex_iload_n dX12_neverHeld_22 rfl rfl ?_
    refine Ex_aload_n dX12_neverHeld_23 rfl rfl ?_
    refine Ex_getf dX12_neverHeld_24 rfl (ma0 M2_) rfl rfl rfl ?_
    refine Ex_iload_n dX12_neverHeld_27 rfl rfl ?_
    refine Ex_iald12 (c := c) dX12_neverHeld_28 rfl (ma3 M2_) (by omega) (by omega) ?_
    refine Ex_inv 2 dX12_neverHeld_29 rfl rfl (Or.inl rfl) rfl rfl rfl rfl (ma0 M2_) rfl rfl rfl (Ex_post (x12_aloneFrom M2_ hn6 hg hK hc hX (by omega)) ?_)
    rintro _ _ ⟨rfl, e0⟩
    obtain rfl := Eq.symm e0
    refine Ex_iret dX12_neverHeld_32 rfl rfl ?_
    exact ⟨ri (by rw [cl_id hgc.1]), ⟨_, _, _, M2_, hn, h6, h23, fun j hj => by rw [fuR_ne (by omega)]; exact hσ j hj⟩, (f1_.trans f2_)⟩
  · have ea : an_never n K F T S c = -1 := if_neg q
    rw [ea]
    refine Ex_aload_n dX12_neverHeld_0 rfl rfl ?_
    refine Ex_iconst dX12_neverHeld_1 rfl ?_
    refine Ex_put12 (k0 := 13) (v := 0) dX12_neverHeld_2 rfl (ma0 M) rfl rfl rfl rfl rfl (by omega) rfl ?_
    refine mg0 M ?_
    intro h1_ M1_ f1_
    refine Ex_aload_n dX12_neverHeld_5 rfl rfl ?_
    refine Ex_iload_n dX12_neverHeld_6 rfl rfl ?_
    refine Ex_inv 2 dX12_neverHeld_7 rfl rfl (Or.inl rfl) rfl rfl rfl rfl (ma0 M1_) rfl rfl rfl (Ex_post (x12_isChild M1_ hn hn6 (by omega)) ?_)
    rintro _ _ ⟨rfl, e0⟩
    obtain rfl := Eq.symm e0
    refine Ex_if_ne (t := 15) dX12_neverHeld_10 rfl rfl (by omega) (fun c10 => absurd c10 (by omega)) (fun c10 => ?_)
    refine Ex_iconst dX12_neverHeld_13 rfl ?_
    refine Ex_iret dX12_neverHeld_14 rfl rfl ?_
    exact ⟨rfl, ⟨_, _, _, M1_, hn, h6, h23, hσ⟩, f1_⟩
theorem x12_costs {E : am_E} {d : Nat} {h : Hp} {m n : Nat} {mm hi : Int} {K F T S C : Nat → Int} {σ : Nat → Nat → Int} {c : Int}  (I : MI h m (n, mm, K, F, T, S, C) hi σ) (hn6 : n ≤ 6) (hg : Rng n T S C) (hK : ∀ i, i < n → (0 ≤ K i ∧ K i ≤ 7) ∧ (0 ≤ F i ∧ F i ≤ 9)) (hB : E.2 ≤ m) (hc : (-2147483648 ≤ c ∧ c ≤ 2147483647))  : Ex E (d + 4) mX12_costs 0 [.ref m, .int (i32 c), .retAddr 0, .retAddr 0] [] h (fun r1 h1 => r1 = some (.int (i32 (an_costs n K F T S c))) ∧ MI h1 m (n, mm, K, F, T, S, C) hi σ ∧ Fr h h1 m (m + 23)) := by
  obtain ⟨g, ρ, kp, M, hn, h6, h23, hσ⟩ := I
  have M : MAt h m g K F T S C ρ kp := M
  have hn : g 0 = (n : Int) := hn
  have h6 : g 6 = mm := h6
  by_cases q : 0 ≤ c ∧ c < (n : Int)
  · have ea : an_costs n K F T S c = cst (K c.toNat) (F c.toNat) (T c.toNat) (S c.toNat) := if_pos q
    rw [ea]
    obtain ⟨c, rfl⟩ := Int.eq_ofNat_of_zero_le (show 0 ≤ c by omega)
    have hc : c < n := by omega
    have hgc := hg c hc
    have hKc := hK c hc
    simp only [Int.toNat_natCast]
    have hfr := sp_fright_r (k := K c) hKc.2
    have e7 : sp_cl (T c) = T c := cl_id hgc.1
    have v1 := alo_v (k := K c) (f := F c) (fw := 0) (t := T c) (s := S c)
    have v2 := alo_v (k := K c) (f := F c) (fw := 0) (t := sp_cl (T c - sp_fright (K c) (F c))) (s := S c)
    have v3 := alo_r (k := K c) (f := F c) (fw := 0) (t := T c) (s := S c)
    have v4 := alo_r (k := K c) (f := F c) (fw := 0) (t := sp_cl (T c - sp_fright (K c) (F c))) (s := S c)
    refine Ex_aload_n dX12_costs_0 rfl rfl ?_
    refine Ex_iconst dX12_costs_1 rfl ?_
    refine Ex_put12 (k0 := 13) (v := 0) dX12_costs_2 rfl (ma0 M) rfl rfl rfl rfl rfl (by omega) rfl ?_
    refine mg0 M ?_
    intro h1_ M1_ f1_
    refine Ex_aload_n dX12_costs_5 rfl rfl ?_
    refine Ex_iload_n dX12_costs_6 rfl rfl ?_
    refine Ex_inv 2 dX12_costs_7 rfl rfl (Or.inl rfl) rfl rfl rfl rfl (ma0 M1_) rfl rfl rfl (Ex_post (x12_isChild M1_ hn hn6 (by omega)) ?_)
    rintro _ _ ⟨rfl, e0⟩
    obtain rfl := Eq.symm e0
    refine Ex_if_ne (t := 15) dX12_costs_10 rfl rfl (by omega) (fun c10 => ?_) (fun c10 => absurd c10 (by omega))
    refine Ex_aload_n dX12_costs_15 rfl rfl ?_
    refine Ex_iload_n dX12_costs_16 rfl rfl ?_
    refine Ex_iconst dX12_costs_17 rfl ?_
    refine Ex_inv 2 dX12_costs_18 rfl rfl (Or.inl rfl) rfl rfl rfl rfl (ma0 M1_) rfl rfl rfl (Ex_post (x12_layFewest (fw := 0) M1_ hn6 hK hB hc (by omega)) ?_)
    rintro _ h2_ ⟨rfl, ⟨d9, hX, M2_⟩, f2_⟩
    have hX : TX (K c) (F c) 0 (fuR ρ 17 d9 17) := by rw [fuR_at]; exact hX
    refine Ex_aload_n dX12_costs_21 rfl rfl ?_
    refine Ex_iload_n dX12_costs_22 rfl rfl ?_
    refine Ex_aload_n dX12_costs_23 rfl rfl ?_
    refine Ex_getf dX12_costs_24 rfl (ma0 M2_) rfl rfl rfl ?_
    refine Ex_iload_n dX12_costs_27 rfl rfl ?_
    refine Ex_iald12 (c := c) dX12_costs_28 rfl (ma3 M2_) (by omega) (by omega) ?_
    refine Ex_inv 2 dX12_costs_29 rfl rfl (Or.inl rfl) rfl rfl rfl rfl (ma0 M2_) rfl rfl rfl (Ex_post (x12_aloneFrom M2_ hn6 hg hK hc hX (by omega)) ?_)
    rintro _ _ ⟨rfl, e0⟩
    obtain rfl := Eq.symm e0
    rw [e7]
    refine Ex_istore_n (L2 := [_, _, _, _]) dX12_costs_32 rfl rfl rfl ?_
    refine Ex_aload_n dX12_costs_33 rfl rfl ?_
    refine Ex_iload_n dX12_costs_34 rfl rfl ?_
    refine Ex_aload_n dX12_costs_35 rfl rfl ?_
    refine Ex_getf dX12_costs_36 rfl (ma0 M2_) rfl rfl rfl ?_
    refine Ex_iload_n dX12_costs_39 rfl rfl ?_
    refine Ex_iald12 (c := c) dX12_costs_40 rfl (ma3 M2_) (by omega) (by omega) ?_
    refine Ex_aload_n dX12_costs_41 rfl rfl ?_
    refine Ex_iload_n dX12_costs_42 rfl rfl ?_
    refine Ex_inv 2 dX12_costs_43 rfl rfl (Or.inl rfl) rfl rfl rfl rfl (ma0 M2_) rfl rfl rfl (Ex_post (x12_frightOf M2_ hn6 hK hc) ?_)
    rintro _ _ ⟨rfl, e0⟩
    obtain rfl := Eq.symm e0
    refine Ex_isub dX12_costs_46 rfl ?_
    refine Ex_inv 2 dX12_costs_47 rfl rfl (Or.inl rfl) rfl rfl rfl rfl (ma0 M2_) rfl rfl rfl (Ex_post (x12_aloneFrom M2_ hn6 hg hK hc hX (by omega)) ?_)
    rintro _ _ ⟨rfl, e0⟩
    obtain rfl := Eq.symm e0
    refine Ex_istore_n (L2 := [_, _, _, _]) dX12_costs_50 rfl rfl rfl ?_
    refine Ex_iload_n dX12_costs_51 rfl rfl ?_
    refine Ex_if_ge (t := 60) dX12_costs_52 rfl rfl (by omega) (fun c52 => ?_) (fun c52 => ?_)
    · refine Ex_iload_n dX12_costs_60 rfl rfl ?_
      refine Ex_if_ge (t := 69) dX12_costs_61 rfl rfl (by omega) (fun c61 => ?_) (fun c61 => ?_)
      · refine Ex_iload_n dX12_costs_69 rfl rfl ?_
        refine Ex_iload_n dX12_costs_70 rfl rfl ?_
        refine Ex_isub dX12_costs_71 rfl ?_
        refine Ex_iret dX12_costs_72 rfl rfl ?_
        exact ⟨ri (by unfold cst; (repeat' split) <;> omega), ⟨_, _, _, M2_, hn, h6, h23, fun j hj => by rw [fuR_ne (by omega)]; exact hσ j hj⟩, (f1_.trans f2_)⟩
      · refine Ex_bipush dX12_costs_64 rfl (by decide) ?_
        refine Ex_goto (t := 70) dX12_costs_66 rfl ?_
        refine Ex_iload_n dX12_costs_70 rfl rfl ?_
        refine Ex_isub dX12_costs_71 rfl ?_
        refine Ex_iret dX12_costs_72 rfl rfl ?_
        exact ⟨ri (by unfold cst; (repeat' split) <;> omega), ⟨_, _, _, M2_, hn, h6, h23, fun j hj => by rw [fuR_ne (by omega)]; exact hσ j hj⟩, (f1_.trans f2_)⟩
    · refine Ex_bipush dX12_costs_55 rfl (by decide) ?_
      refine Ex_goto (t := 72) dX12_costs_57 rfl ?_
      refine Ex_iret dX12_costs_72 rfl rfl ?_
      exact ⟨ri (by unfold cst; (repeat' split) <;> omega), ⟨_, _, _, M2_, hn, h6, h23, fun j hj => by rw [fuR_ne (by omega)]; exact hσ j hj⟩, (f1_.trans f2_)⟩
  · have ea : an_costs n K F T S c = -1 := if_neg q
    rw [ea]
    refine Ex_aload_n dX12_costs_0 rfl rfl ?_
    refine Ex_iconst dX12_costs_1 rfl ?_
    refine Ex_put12 (k0 := 13) (v := 0) dX12_costs_2 rfl (ma0 M) rfl rfl rfl rfl rfl (by omega) rfl ?_
    refine mg0 M ?_
    intro h1_ M1_ f1_
    refine Ex_aload_n dX12_costs_5 rfl rfl ?_
    refine Ex_iload_n dX12_costs_6 rfl rfl ?_
    refine Ex_inv 2 dX12_costs_7 rfl rfl (Or.inl rfl) rfl rfl rfl rfl (ma0 M1_) rfl rfl rfl (Ex_post (x12_isChild M1_ hn hn6 (by omega)) ?_)
    rintro _ _ ⟨rfl, e0⟩
    obtain rfl := Eq.symm e0
    refine Ex_if_ne (t := 15) dX12_costs_10 rfl rfl (by omega) (fun c10 => absurd c10 (by omega)) (fun c10 => ?_)
    refine Ex_iconst dX12_costs_13 rfl ?_
    refine Ex_iret dX12_costs_14 rfl rfl ?_
    exact ⟨rfl, ⟨_, _, _, M1_, hn, h6, h23, hσ⟩, f1_⟩
theorem fw_step {k f : Int} {d : Nat → Int} {t s few : Int} {q w : Nat} (X : TX k f 0 d) (hf : 0 ≤ f ∧ f ≤ 9) (hq : q < 147) (hw : w < 3) (ht : ((q % 21 : Nat) : Int) = t) (hs : ((q / 21 : Nat) : Int) = s) (hfe : d q = few ∧ few ≤ 60 ∧ 1 ≤ few) : (alo k f 0 (sp_mt k f (w : Int) t s) (sp_ms k f (w : Int) t s) = few - 1 ↔ d (nxs k f w q) + 1 ≤ few) := by
  have n2 := (nxs_v (k := k) hf (w := w) hq).2
  have e : alo k f 0 (sp_mt k f (w : Int) t s) (sp_ms k f (w : Int) t s) = if d (nxs k f w q) ≤ 60 then d (nxs k f w q) else -4 := by
    rw [← X.few hf n2, ← ht, ← hs]; rfl
  have h1 := X.2 q hq w (by omega) hw
  have h2 := X.1.1 _ n2
  rw [e]
  split <;> omega
theorem fw_ex {k f : Int} {d : Nat → Int} {few : Int} {q : Nat} (X : TX k f 0 d) (hf : 0 ≤ f ∧ f ≤ 9) (hq : q < 147) (hfe : d q = few ∧ few ≤ 60 ∧ 1 ≤ few) : ∃ v, v < 3 ∧ d (nxs k f v q) + 1 ≤ few := by
  have h := X.1.2.2 q hq (by omega)
  rw [show (d q).toNat = (few - 1).toNat + 1 by omega] at h
  rcases Wb_s.1 h with h | ⟨w, h1, h2, h3⟩
  · omega
  · have := X.le hf _ _ (nxs_v (k := k) hf (w := w) hq).2 h3
    exact ⟨w, h2, by omega⟩
theorem x12_alone_l {E : am_E} {d : Nat} {h : Hp} {m n : Nat} {g K F T S C : Nat → Int} {ρ : Nat → Nat → Int} {kp : Value} {c q : Nat} {u few : Int} (M : MAt h m g K F T S C ρ kp) (hn6 : n ≤ 6) (hg : Rng n T S C) (hK : ∀ i, i < n → (0 ≤ K i ∧ K i ≤ 7) ∧ (0 ≤ F i ∧ F i ≤ 9)) (hc : c < n) (hT : TX (K c) (F c) 0 (ρ 17)) (hq : q < 147) (hqv : 21 * S c + T c = (q : Int)) (hfe : ρ 17 q = few ∧ few ≤ 60 ∧ 1 ≤ few) : ∀ (k w : Nat), w + k = 3 → (∃ v, w ≤ v ∧ v < 3 ∧ ρ 17 (nxs (K c) (F c) v q) + 1 ≤ few) → Ex E (d + 4) mX12_alone 66 [.ref m, .int (i32 (c : Int)), .int (i32 u), .int (i32 few), .int (i32 (w : Int))] [] h (fun r1 h1 => r1 = some (.int (i32 (fwJ (K c) (F c) (T c) (S c) few (w : Int) k))) ∧ h1 = h) := by
  intro k
  induction k with
  | zero =>
    intro w hk hv
    obtain ⟨v, v1, v2, v3⟩ := hv
    exact absurd v1 (by omega)
  | succ k ih =>
    intro w hk hv
    have hgc := hg c hc
    have hKc := hK c hc
    have st := fw_step (t := T c) (s := S c) (w := w) hT hKc.2 hq (by omega) (by omega) (by omega) hfe
    have n2 := (nxs_v (k := K c) hKc.2 (w := w) hq).2
    obtain ⟨x, hx⟩ : ∃ x, x = nxs (K c) (F c) w q := ⟨_, rfl⟩
    rw [← hx] at n2 st
    have b1 := hT.1.1 x n2
    have ea : fwJ (K c) (F c) (T c) (S c) few (w : Int) (k + 1) = if alo (K c) (F c) 0 (sp_mt (K c) (F c) (w : Int) (T c) (S c)) (sp_ms (K c) (F c) (w : Int) (T c) (S c)) = few - 1 then (w : Int) else fwJ (K c) (F c) (T c) (S c) few ((w : Int) + 1) k := rfl
    rw [ea]
    by_cases q1 : ρ 17 x + 1 ≤ few
    · rw [if_pos (st.2 q1)]
      refine Ex_aload_n dX12_alone_66 rfl rfl ?_
      refine Ex_getf dX12_alone_67 rfl (ma0 M) rfl rfl rfl ?_
      refine Ex_aload_n dX12_alone_70 rfl rfl ?_
      refine Ex_iload_n dX12_alone_71 rfl rfl ?_
      refine Ex_aload_n dX12_alone_72 rfl rfl ?_
      refine Ex_iload_n dX12_alone_73 rfl rfl ?_
      refine Ex_inv 2 dX12_alone_74 rfl rfl (Or.inl rfl) rfl rfl rfl rfl (ma0 M) rfl rfl rfl (Ex_post (x12_stateOf M hn6 hg hc) ?_)
      rintro _ _ ⟨rfl, e0⟩
      obtain rfl := Eq.symm e0
      rw [hqv]
      refine Ex_iload dX12_alone_77 rfl rfl ?_
      refine Ex_inv 2 dX12_alone_79 rfl rfl (Or.inl rfl) rfl rfl rfl rfl (ma0 M) rfl rfl rfl (Ex_post (x12_behindWay M hn6 hK hc hq (by omega)) ?_)
      rintro _ _ ⟨rfl, e0⟩
      obtain rfl := Eq.symm e0
      rw [← hx]
      refine Ex_iald12 (c := x) dX12_alone_82 rfl (ma17 M) rfl (by omega) ?_
      refine Ex_iconst dX12_alone_83 rfl ?_
      refine Ex_iadd dX12_alone_84 rfl ?_
      refine Ex_iload_n dX12_alone_85 rfl rfl ?_
      refine Ex_icmp_le (t := 95) dX12_alone_86 rfl rfl (by omega) (fun c86 => ?_) (fun c86 => absurd c86 (by omega))
      refine Ex_iload dX12_alone_95 rfl rfl ?_
      refine Ex_iret dX12_alone_97 rfl rfl ?_
      exact ⟨rfl, rfl⟩
    · rw [if_neg (fun z => q1 (st.1 z))]
      refine Ex_aload_n dX12_alone_66 rfl rfl ?_
      refine Ex_getf dX12_alone_67 rfl (ma0 M) rfl rfl rfl ?_
      refine Ex_aload_n dX12_alone_70 rfl rfl ?_
      refine Ex_iload_n dX12_alone_71 rfl rfl ?_
      refine Ex_aload_n dX12_alone_72 rfl rfl ?_
      refine Ex_iload_n dX12_alone_73 rfl rfl ?_
      refine Ex_inv 2 dX12_alone_74 rfl rfl (Or.inl rfl) rfl rfl rfl rfl (ma0 M) rfl rfl rfl (Ex_post (x12_stateOf M hn6 hg hc) ?_)
      rintro _ _ ⟨rfl, e0⟩
      obtain rfl := Eq.symm e0
      rw [hqv]
      refine Ex_iload dX12_alone_77 rfl rfl ?_
      refine Ex_inv 2 dX12_alone_79 rfl rfl (Or.inl rfl) rfl rfl rfl rfl (ma0 M) rfl rfl rfl (Ex_post (x12_behindWay M hn6 hK hc hq (by omega)) ?_)
      rintro _ _ ⟨rfl, e0⟩
      obtain rfl := Eq.symm e0
      rw [← hx]
      refine Ex_iald12 (c := x) dX12_alone_82 rfl (ma17 M) rfl (by omega) ?_
      refine Ex_iconst dX12_alone_83 rfl ?_
      refine Ex_iadd dX12_alone_84 rfl ?_
      refine Ex_iload_n dX12_alone_85 rfl rfl ?_
      refine Ex_icmp_le (t := 95) dX12_alone_86 rfl rfl (by omega) (fun c86 => absurd c86 (by omega)) (fun c86 => ?_)
      refine Ex_iinc (L2 := [_, _, _, _, _]) dX12_alone_89 rfl rfl rfl ?_
      refine Ex_goto (t := 66) dX12_alone_92 rfl ?_
      refine ih (w + 1) (by omega) ?_
      obtain ⟨v, v1, v2, v3⟩ := hv
      refine ⟨v, ?_, v2, v3⟩
      by_cases e : v = w
      · rw [e, ← hx] at v3; exact absurd v3 q1
      · omega
theorem x12_alone {E : am_E} {d : Nat} {h : Hp} {m n : Nat} {mm hi : Int} {K F T S C : Nat → Int} {σ : Nat → Nat → Int} {c u : Int}  (I : MI h m (n, mm, K, F, T, S, C) hi σ) (hn6 : n ≤ 6) (hg : Rng n T S C) (hK : ∀ i, i < n → (0 ≤ K i ∧ K i ≤ 7) ∧ (0 ≤ F i ∧ F i ≤ 9)) (hB : E.2 ≤ m) (hc : (-2147483648 ≤ c ∧ c ≤ 2147483647)) (hu : (-2147483648 ≤ u ∧ u ≤ 2147483647))  : Ex E (d + 4) mX12_alone 0 [.ref m, .int (i32 c), .int (i32 u), .retAddr 0, .retAddr 0] [] h (fun r1 h1 => r1 = some (.int (i32 (an_alone n K F T S c u))) ∧ MI h1 m (n, mm, K, F, T, S, C) hi σ ∧ Fr h h1 m (m + 23)) := by
  obtain ⟨g, ρ, kp, M, hn, h6, h23, hσ⟩ := I
  have M : MAt h m g K F T S C ρ kp := M
  have hn : g 0 = (n : Int) := hn
  have h6 : g 6 = mm := h6
  by_cases q : (0 ≤ c ∧ c < (n : Int)) ∧ (0 ≤ u ∧ u ≤ 1)
  · have ea : an_alone n K F T S c u = (if u = 0 then alo (K c.toNat) (F c.toNat) 0 (T c.toNat) (S c.toNat) else if alo (K c.toNat) (F c.toNat) 0 (T c.toNat) (S c.toNat) ≤ 0 then -4 else fwJ (K c.toNat) (F c.toNat) (T c.toNat) (S c.toNat) (alo (K c.toNat) (F c.toNat) 0 (T c.toNat) (S c.toNat)) 0 3) := by unfold an_alone; exact if_pos q
    rw [ea]
    obtain ⟨c, rfl⟩ := Int.eq_ofNat_of_zero_le (show 0 ≤ c by omega)
    have hc : c < n := by omega
    have hgc := hg c hc
    have hKc := hK c hc
    simp only [Int.toNat_natCast]
    have e7 : sp_cl (T c) = T c := cl_id hgc.1
    have v1 := alo_v (k := K c) (f := F c) (fw := 0) (t := T c) (s := S c)
    have v3 := alo_r (k := K c) (f := F c) (fw := 0) (t := T c) (s := S c)
    by_cases q1 : u = 0
    · refine Ex_aload_n dX12_alone_0 rfl rfl ?_
      refine Ex_iconst dX12_alone_1 rfl ?_
      refine Ex_put12 (k0 := 13) (v := 0) dX12_alone_2 rfl (ma0 M) rfl rfl rfl rfl rfl (by omega) rfl ?_
      refine mg0 M ?_
      intro h1_ M1_ f1_
      refine Ex_aload_n dX12_alone_5 rfl rfl ?_
      refine Ex_iload_n dX12_alone_6 rfl rfl ?_
      refine Ex_inv 2 dX12_alone_7 rfl rfl (Or.inl rfl) rfl rfl rfl rfl (ma0 M1_) rfl rfl rfl (Ex_post (x12_isChild M1_ hn hn6 (by omega)) ?_)
      rintro _ _ ⟨rfl, e0⟩
      obtain rfl := Eq.symm e0
      refine Ex_if_eq (t := 23) dX12_alone_10 rfl rfl (by omega) (fun c10 => absurd c10 (by omega)) (fun c10 => ?_)
      refine Ex_iload_n dX12_alone_13 rfl rfl ?_
      refine Ex_i2l dX12_alone_14 rfl (by omega) ?_
      refine Ex_lconst (z := 0) dX12_alone_15 rfl (by decide) ?_
      refine Ex_lconst (z := 1) dX12_alone_16 rfl (by decide) ?_
      refine Ex_stat 0 dX12_alone_17 rfl rfl (Or.inl rfl) rfl rfl rfl rfl rfl rfl (Ex_post (x12_in (by omega) (by omega) (by omega)) ?_)
      rintro _ _ ⟨rfl, e0⟩
      obtain rfl := Eq.symm e0
      refine Ex_if_ne (t := 25) dX12_alone_20 rfl rfl (by omega) (fun c20 => ?_) (fun c20 => absurd c20 (by omega))
      refine Ex_aload_n dX12_alone_25 rfl rfl ?_
      refine Ex_iload_n dX12_alone_26 rfl rfl ?_
      refine Ex_iconst dX12_alone_27 rfl ?_
      refine Ex_inv 2 dX12_alone_28 rfl rfl (Or.inl rfl) rfl rfl rfl rfl (ma0 M1_) rfl rfl rfl (Ex_post (x12_layFewest (fw := 0) M1_ hn6 hK hB hc (by omega)) ?_)
      rintro _ h2_ ⟨rfl, ⟨d9, hX, M2_⟩, f2_⟩
      have hX : TX (K c) (F c) 0 (fuR ρ 17 d9 17) := by rw [fuR_at]; exact hX
      refine Ex_aload_n dX12_alone_31 rfl rfl ?_
      refine Ex_iload_n dX12_alone_32 rfl rfl ?_
      refine Ex_aload_n dX12_alone_33 rfl rfl ?_
      refine Ex_getf dX12_alone_34 rfl (ma0 M2_) rfl rfl rfl ?_
      refine Ex_iload_n dX12_alone_37 rfl rfl ?_
      refine Ex_iald12 (c := c) dX12_alone_38 rfl (ma3 M2_) (by omega) (by omega) ?_
      refine Ex_inv 2 dX12_alone_39 rfl rfl (Or.inl rfl) rfl rfl rfl rfl (ma0 M2_) rfl rfl rfl (Ex_post (x12_aloneFrom M2_ hn6 hg hK hc hX (by omega)) ?_)
      rintro _ _ ⟨rfl, e0⟩
      obtain rfl := Eq.symm e0
      rw [e7]
      refine Ex_istore_n (L2 := [_, _, _, _, _]) dX12_alone_42 rfl rfl rfl ?_
      refine Ex_iload_n dX12_alone_43 rfl rfl ?_
      refine Ex_if_eq (t := 52) dX12_alone_44 rfl rfl (by omega) (fun c44 => ?_) (fun c44 => absurd c44 (by omega))
      refine Ex_iload_n dX12_alone_52 rfl rfl ?_
      refine Ex_if_ne (t := 60) dX12_alone_53 rfl rfl (by omega) (fun c53 => absurd c53 (by omega)) (fun c53 => ?_)
      refine Ex_iload_n dX12_alone_56 rfl rfl ?_
      refine Ex_goto (t := 62) dX12_alone_57 rfl ?_
      refine Ex_iret dX12_alone_62 rfl rfl ?_
      exact ⟨ri (by rw [if_pos q1]), ⟨_, _, _, M2_, hn, h6, h23, fun j hj => by rw [fuR_ne (by omega)]; exact hσ j hj⟩, (f1_.trans f2_)⟩
    · rw [if_neg q1]
      by_cases q2 : alo (K c) (F c) 0 (T c) (S c) ≤ 0
      · refine Ex_aload_n dX12_alone_0 rfl rfl ?_
        refine Ex_iconst dX12_alone_1 rfl ?_
        refine Ex_put12 (k0 := 13) (v := 0) dX12_alone_2 rfl (ma0 M) rfl rfl rfl rfl rfl (by omega) rfl ?_
        refine mg0 M ?_
        intro h1_ M1_ f1_
        refine Ex_aload_n dX12_alone_5 rfl rfl ?_
        refine Ex_iload_n dX12_alone_6 rfl rfl ?_
        refine Ex_inv 2 dX12_alone_7 rfl rfl (Or.inl rfl) rfl rfl rfl rfl (ma0 M1_) rfl rfl rfl (Ex_post (x12_isChild M1_ hn hn6 (by omega)) ?_)
        rintro _ _ ⟨rfl, e0⟩
        obtain rfl := Eq.symm e0
        refine Ex_if_eq (t := 23) dX12_alone_10 rfl rfl (by omega) (fun c10 => absurd c10 (by omega)) (fun c10 => ?_)
        refine Ex_iload_n dX12_alone_13 rfl rfl ?_
        refine Ex_i2l dX12_alone_14 rfl (by omega) ?_
        refine Ex_lconst (z := 0) dX12_alone_15 rfl (by decide) ?_
        refine Ex_lconst (z := 1) dX12_alone_16 rfl (by decide) ?_
        refine Ex_stat 0 dX12_alone_17 rfl rfl (Or.inl rfl) rfl rfl rfl rfl rfl rfl (Ex_post (x12_in (by omega) (by omega) (by omega)) ?_)
        rintro _ _ ⟨rfl, e0⟩
        obtain rfl := Eq.symm e0
        refine Ex_if_ne (t := 25) dX12_alone_20 rfl rfl (by omega) (fun c20 => ?_) (fun c20 => absurd c20 (by omega))
        refine Ex_aload_n dX12_alone_25 rfl rfl ?_
        refine Ex_iload_n dX12_alone_26 rfl rfl ?_
        refine Ex_iconst dX12_alone_27 rfl ?_
        refine Ex_inv 2 dX12_alone_28 rfl rfl (Or.inl rfl) rfl rfl rfl rfl (ma0 M1_) rfl rfl rfl (Ex_post (x12_layFewest (fw := 0) M1_ hn6 hK hB hc (by omega)) ?_)
        rintro _ h2_ ⟨rfl, ⟨d9, hX, M2_⟩, f2_⟩
        have hX : TX (K c) (F c) 0 (fuR ρ 17 d9 17) := by rw [fuR_at]; exact hX
        refine Ex_aload_n dX12_alone_31 rfl rfl ?_
        refine Ex_iload_n dX12_alone_32 rfl rfl ?_
        refine Ex_aload_n dX12_alone_33 rfl rfl ?_
        refine Ex_getf dX12_alone_34 rfl (ma0 M2_) rfl rfl rfl ?_
        refine Ex_iload_n dX12_alone_37 rfl rfl ?_
        refine Ex_iald12 (c := c) dX12_alone_38 rfl (ma3 M2_) (by omega) (by omega) ?_
        refine Ex_inv 2 dX12_alone_39 rfl rfl (Or.inl rfl) rfl rfl rfl rfl (ma0 M2_) rfl rfl rfl (Ex_post (x12_aloneFrom M2_ hn6 hg hK hc hX (by omega)) ?_)
        rintro _ _ ⟨rfl, e0⟩
        obtain rfl := Eq.symm e0
        rw [e7]
        refine Ex_istore_n (L2 := [_, _, _, _, _]) dX12_alone_42 rfl rfl rfl ?_
        refine Ex_iload_n dX12_alone_43 rfl rfl ?_
        refine Ex_if_eq (t := 52) dX12_alone_44 rfl rfl (by omega) (fun c44 => absurd c44 (by omega)) (fun c44 => ?_)
        refine Ex_iload_n dX12_alone_47 rfl rfl ?_
        refine Ex_iconst dX12_alone_48 rfl ?_
        refine Ex_icmp_ge (t := 63) dX12_alone_49 rfl rfl (by omega) (fun c49 => absurd c49 (by omega)) (fun c49 => ?_)
        refine Ex_iload_n dX12_alone_52 rfl rfl ?_
        refine Ex_if_ne (t := 60) dX12_alone_53 rfl rfl (by omega) (fun c53 => ?_) (fun c53 => absurd c53 (by omega))
        refine Ex_bipush dX12_alone_60 rfl (by decide) ?_
        refine Ex_iret dX12_alone_62 rfl rfl ?_
        exact ⟨ri (by rw [if_pos q2]), ⟨_, _, _, M2_, hn, h6, h23, fun j hj => by rw [fuR_ne (by omega)]; exact hσ j hj⟩, (f1_.trans f2_)⟩
      · refine Ex_aload_n dX12_alone_0 rfl rfl ?_
        refine Ex_iconst dX12_alone_1 rfl ?_
        refine Ex_put12 (k0 := 13) (v := 0) dX12_alone_2 rfl (ma0 M) rfl rfl rfl rfl rfl (by omega) rfl ?_
        refine mg0 M ?_
        intro h1_ M1_ f1_
        refine Ex_aload_n dX12_alone_5 rfl rfl ?_
        refine Ex_iload_n dX12_alone_6 rfl rfl ?_
        refine Ex_inv 2 dX12_alone_7 rfl rfl (Or.inl rfl) rfl rfl rfl rfl (ma0 M1_) rfl rfl rfl (Ex_post (x12_isChild M1_ hn hn6 (by omega)) ?_)
        rintro _ _ ⟨rfl, e0⟩
        obtain rfl := Eq.symm e0
        refine Ex_if_eq (t := 23) dX12_alone_10 rfl rfl (by omega) (fun c10 => absurd c10 (by omega)) (fun c10 => ?_)
        refine Ex_iload_n dX12_alone_13 rfl rfl ?_
        refine Ex_i2l dX12_alone_14 rfl (by omega) ?_
        refine Ex_lconst (z := 0) dX12_alone_15 rfl (by decide) ?_
        refine Ex_lconst (z := 1) dX12_alone_16 rfl (by decide) ?_
        refine Ex_stat 0 dX12_alone_17 rfl rfl (Or.inl rfl) rfl rfl rfl rfl rfl rfl (Ex_post (x12_in (by omega) (by omega) (by omega)) ?_)
        rintro _ _ ⟨rfl, e0⟩
        obtain rfl := Eq.symm e0
        refine Ex_if_ne (t := 25) dX12_alone_20 rfl rfl (by omega) (fun c20 => ?_) (fun c20 => absurd c20 (by omega))
        refine Ex_aload_n dX12_alone_25 rfl rfl ?_
        refine Ex_iload_n dX12_alone_26 rfl rfl ?_
        refine Ex_iconst dX12_alone_27 rfl ?_
        refine Ex_inv 2 dX12_alone_28 rfl rfl (Or.inl rfl) rfl rfl rfl rfl (ma0 M1_) rfl rfl rfl (Ex_post (x12_layFewest (fw := 0) M1_ hn6 hK hB hc (by omega)) ?_)
        rintro _ h2_ ⟨rfl, ⟨d9, hX, M2_⟩, f2_⟩
        have hX : TX (K c) (F c) 0 (fuR ρ 17 d9 17) := by rw [fuR_at]; exact hX
        refine Ex_aload_n dX12_alone_31 rfl rfl ?_
        refine Ex_iload_n dX12_alone_32 rfl rfl ?_
        refine Ex_aload_n dX12_alone_33 rfl rfl ?_
        refine Ex_getf dX12_alone_34 rfl (ma0 M2_) rfl rfl rfl ?_
        refine Ex_iload_n dX12_alone_37 rfl rfl ?_
        refine Ex_iald12 (c := c) dX12_alone_38 rfl (ma3 M2_) (by omega) (by omega) ?_
        refine Ex_inv 2 dX12_alone_39 rfl rfl (Or.inl rfl) rfl rfl rfl rfl (ma0 M2_) rfl rfl rfl (Ex_post (x12_aloneFrom M2_ hn6 hg hK hc hX (by omega)) ?_)
        rintro _ _ ⟨rfl, e0⟩
        obtain rfl := Eq.symm e0
        rw [e7]
        refine Ex_istore_n (L2 := [_, _, _, _, _]) dX12_alone_42 rfl rfl rfl ?_
        refine Ex_iload_n dX12_alone_43 rfl rfl ?_
        refine Ex_if_eq (t := 52) dX12_alone_44 rfl rfl (by omega) (fun c44 => absurd c44 (by omega)) (fun c44 => ?_)
        refine Ex_iload_n dX12_alone_47 rfl rfl ?_
        refine Ex_iconst dX12_alone_48 rfl ?_
        refine Ex_icmp_ge (t := 63) dX12_alone_49 rfl rfl (by omega) (fun c49 => ?_) (fun c49 => absurd c49 (by omega))
        refine Ex_iconst dX12_alone_63 rfl ?_
        refine Ex_istore (L2 := [_, _, _, _, _]) dX12_alone_64 rfl rfl rfl ?_
        have h7 : S c ≠ 7 := fun z => by
          rw [z] at q2
          exact q2 (by rw [alo_7 hgc.1.1]; omega)
        obtain ⟨p, hp⟩ : ∃ p, p = (21 * S c + T c).toNat := ⟨_, rfl⟩
        have hp2 : p < 147 := by omega
        have ef : alo (K c) (F c) 0 (T c) (S c) = if fuR ρ 17 d9 17 p ≤ 60 then fuR ρ 17 d9 17 p else -4 := by rw [hp]; exact hX.few hKc.2 (by omega)
        have b1 := hX.1.1 p (by omega)
        have hfe : fuR ρ 17 d9 17 p = alo (K c) (F c) 0 (T c) (S c) ∧ alo (K c) (F c) 0 (T c) (S c) ≤ 60 ∧ 1 ≤ alo (K c) (F c) 0 (T c) (S c) := by
          refine ⟨?_, v3.2, by omega⟩
          by_cases e : fuR ρ 17 d9 17 p ≤ 60
          · rw [ef, if_pos e]
          · rw [if_neg e] at ef; omega
        obtain ⟨v, hv1, hv2⟩ := fw_ex hX hKc.2 hp2 hfe
        refine Ex_post (x12_alone_l M2_ hn6 hg hK hc hX hp2 (by omega) hfe 3 0 (by omega) ⟨v, by omega, hv1, hv2⟩) ?_
        rintro _ _ ⟨rfl, e9⟩
        rw [e9]
        exact ⟨ri (by rw [if_neg q2]; rfl), ⟨_, _, _, M2_, hn, h6, h23, fun j hj => by rw [fuR_ne (by omega)]; exact hσ j hj⟩, (f1_.trans f2_)⟩
  · have ea : an_alone n K F T S c u = -1 := by unfold an_alone; exact if_neg q
    rw [ea]
    refine Ex_aload_n dX12_alone_0 rfl rfl ?_
    refine Ex_iconst dX12_alone_1 rfl ?_
    refine Ex_put12 (k0 := 13) (v := 0) dX12_alone_2 rfl (ma0 M) rfl rfl rfl rfl rfl (by omega) rfl ?_
    refine mg0 M ?_
    intro h1_ M1_ f1_
    refine Ex_aload_n dX12_alone_5 rfl rfl ?_
    refine Ex_iload_n dX12_alone_6 rfl rfl ?_
    refine Ex_inv 2 dX12_alone_7 rfl rfl (Or.inl rfl) rfl rfl rfl rfl (ma0 M1_) rfl rfl rfl (Ex_post (x12_isChild M1_ hn hn6 (by omega)) ?_)
    rintro _ _ ⟨rfl, e0⟩
    obtain rfl := Eq.symm e0
    refine Ex_if_eq (t := 23) dX12_alone_10 rfl rfl (by omega) (fun c10 => ?_) (fun c10 => ?_)
    · refine Ex_iconst dX12_alone_23 rfl ?_
      refine Ex_iret dX12_alone_24 rfl rfl ?_
      exact ⟨rfl, ⟨_, _, _, M1_, hn, h6, h23, hσ⟩, f1_⟩
    · refine Ex_iload_n dX12_alone_13 rfl rfl ?_
      refine Ex_i2l dX12_alone_14 rfl (by omega) ?_
      refine Ex_lconst (z := 0) dX12_alone_15 rfl (by decide) ?_
      refine Ex_lconst (z := 1) dX12_alone_16 rfl (by decide) ?_
      refine Ex_stat 0 dX12_alone_17 rfl rfl (Or.inl rfl) rfl rfl rfl rfl rfl rfl (Ex_post (x12_in (by omega) (by omega) (by omega)) ?_)
      rintro _ _ ⟨rfl, e0⟩
      obtain rfl := Eq.symm e0
      refine Ex_if_ne (t := 25) dX12_alone_20 rfl rfl (by omega) (fun c20 => ?_) (fun c20 => ?_)
      · exfalso; omega
      · refine Ex_iconst dX12_alone_23 rfl ?_
        refine Ex_iret dX12_alone_24 rfl rfl ?_
        exact ⟨rfl, ⟨_, _, _, M1_, hn, h6, h23, hσ⟩, f1_⟩
