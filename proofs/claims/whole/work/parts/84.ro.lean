/-! the reference: frights (by program: wip/whole/spec_ro.py) -/
theorem tl_pow {t l : Nat} (ht : t ≤ 20) (hl8 : l ≤ 8) : t ^ l ≤ 68719476736 := by
  have h1 : t ^ l ≤ 20 ^ l := Nat.pow_le_pow_left ht l
  have h2 : 20 ^ l ≤ 20 ^ 8 := Nat.pow_le_pow_right (by decide) hl8
  have h3 : 20 ^ 8 ≤ 68719476736 := by decide
  omega
theorem x12_frights {E : am_E} {d : Nat} {h : Hp} {m n : Nat} {mm hi : Int} {K F T S C : Nat → Int} {σ : Nat → Nat → Int} {c l go t p : Int}  (I : MI h m (n, mm, K, F, T, S, C) hi σ) (hn6 : n ≤ 6) (hg : Rng n T S C) (hK : ∀ i, i < n → (0 ≤ K i ∧ K i ≤ 7) ∧ (0 ≤ F i ∧ F i ≤ 9)) (hB : E.2 ≤ m) (hc : (-2147483648 ≤ c ∧ c ≤ 2147483647)) (hl : (-2147483648 ≤ l ∧ l ≤ 2147483647)) (hgo : (-2147483648 ≤ go ∧ go ≤ 2147483647)) (ht : (-2147483648 ≤ t ∧ t ≤ 2147483647)) (hp : (-2147483648 ≤ p ∧ p ≤ 2147483647))  : Ex E (d + 2) mX12_frights 0 [.ref m, .int (i32 c), .int (i32 l), .int (i32 go), .int (i32 t), .int (i32 p), .retAddr 0, .retAddr 0, .retAddr 0, .retAddr 0, .retAddr 0, .retAddr 0, .retAddr 0, .retAddr 0, .retAddr 0, .retAddr 0, .retAddr 0] [] h (fun r1 h1 => r1 = some (.long (i64 (an_frights n K F T S c l go t p))) ∧ MI h1 m (n, mm, K, F, T, S, C) hi σ ∧ Fr h h1 m (m + 23)) := by
  obtain ⟨g, ρ, kp, M, hn, h6, h23, hσ⟩ := I
  have M : MAt h m g K F T S C ρ kp := M
  have hn : g 0 = (n : Int) := hn
  have h6 : g 6 = mm := h6
  by_cases q : (0 ≤ c ∧ c < (n : Int)) ∧ (0 ≤ l ∧ l ≤ 8) ∧ (0 ≤ go ∧ go ≤ 7) ∧ (2 ≤ t ∧ t ≤ 20) ∧ (0 ≤ p ∧ p ≤ 1)
  · have ea : an_frights n K F T S c l go t p = ltm (oc (K c.toNat) (F c.toNat) (S c.toNat + go) t.toNat (T c.toNat) (S c.toNat) l.toNat) (t.toNat ^ l.toNat) p := by unfold an_frights; exact if_pos q
    rw [ea]
    obtain ⟨c, rfl⟩ := Int.eq_ofNat_of_zero_le q.1.1
    obtain ⟨l, rfl⟩ := Int.eq_ofNat_of_zero_le q.2.1.1
    obtain ⟨t, rfl⟩ := Int.eq_ofNat_of_zero_le (show 0 ≤ t by omega)
    simp only [Int.toNat_natCast] at *
    have hc9 : c < n := by omega
    have hl8 : l ≤ 8 := by omega
    have hoc := oc_le (k := K c) (f := F c) (goal := S c + go) (t := t) (by omega) l (T c) (S c)
    refine Ex_aload_n dX12_frights_0 rfl rfl ?_
    refine Ex_iconst dX12_frights_1 rfl ?_
    refine Ex_put12 (k0 := 13) (v := 0) dX12_frights_2 rfl (ma0 M) rfl rfl rfl rfl rfl (by omega) rfl ?_
    refine mg0 M ?_
    intro h1_ M1_ f1_
    refine Ex_aload_n dX12_frights_5 rfl rfl ?_
    refine Ex_iload_n dX12_frights_6 rfl rfl ?_
    refine Ex_inv 2 dX12_frights_7 rfl rfl (Or.inl rfl) rfl rfl rfl rfl (ma0 M1_) rfl rfl rfl (Ex_post (x12_isChild M1_ hn hn6 (by omega)) ?_)
    rintro _ _ ⟨rfl, e0⟩
    obtain rfl := Eq.symm e0
    refine Ex_if_eq (t := 63) dX12_frights_10 rfl rfl (by omega) (fun c10 => absurd c10 (by omega)) (fun c10 => ?_)
    refine Ex_iload_n dX12_frights_13 rfl rfl ?_
    refine Ex_i2l dX12_frights_14 rfl (by omega) ?_
    refine Ex_lconst (z := 0) dX12_frights_15 rfl (by decide) ?_
    refine Ex_ldc2 (z := 8) dX12_frights_16 rfl rfl ?_
    refine Ex_stat 0 dX12_frights_19 rfl rfl (Or.inl rfl) rfl rfl rfl rfl rfl rfl (Ex_post (x12_in (by omega) (by omega) (by omega)) ?_)
    rintro _ _ ⟨rfl, e0⟩
    obtain rfl := Eq.symm e0
    refine Ex_if_eq (t := 63) dX12_frights_22 rfl rfl (by omega) (fun c22 => absurd c22 (by omega)) (fun c22 => ?_)
    refine Ex_iload_n dX12_frights_25 rfl rfl ?_
    refine Ex_i2l dX12_frights_26 rfl (by omega) ?_
    refine Ex_lconst (z := 0) dX12_frights_27 rfl (by decide) ?_
    refine Ex_ldc2 (z := 7) dX12_frights_28 rfl rfl ?_
    refine Ex_stat 0 dX12_frights_31 rfl rfl (Or.inl rfl) rfl rfl rfl rfl rfl rfl (Ex_post (x12_in (by omega) (by omega) (by omega)) ?_)
    rintro _ _ ⟨rfl, e0⟩
    obtain rfl := Eq.symm e0
    refine Ex_if_eq (t := 63) dX12_frights_34 rfl rfl (by omega) (fun c34 => absurd c34 (by omega)) (fun c34 => ?_)
    refine Ex_iload dX12_frights_37 rfl rfl ?_
    refine Ex_i2l dX12_frights_39 rfl (by omega) ?_
    refine Ex_ldc2 (z := 2) dX12_frights_40 rfl rfl ?_
    refine Ex_ldc2 (z := 20) dX12_frights_43 rfl rfl ?_
    refine Ex_stat 0 dX12_frights_46 rfl rfl (Or.inl rfl) rfl rfl rfl rfl rfl rfl (Ex_post (x12_in (by omega) (by omega) (by omega)) ?_)
    rintro _ _ ⟨rfl, e0⟩
    obtain rfl := Eq.symm e0
    refine Ex_if_eq (t := 63) dX12_frights_49 rfl rfl (by omega) (fun c49 => absurd c49 (by omega)) (fun c49 => ?_)
    refine Ex_iload dX12_frights_52 rfl rfl ?_
    refine Ex_i2l dX12_frights_54 rfl (by omega) ?_
    refine Ex_lconst (z := 0) dX12_frights_55 rfl (by decide) ?_
    refine Ex_lconst (z := 1) dX12_frights_56 rfl (by decide) ?_
    refine Ex_stat 0 dX12_frights_57 rfl rfl (Or.inl rfl) rfl rfl rfl rfl rfl rfl (Ex_post (x12_in (by omega) (by omega) (by omega)) ?_)
    rintro _ _ ⟨rfl, e0⟩
    obtain rfl := Eq.symm e0
    refine Ex_if_ne (t := 67) dX12_frights_60 rfl rfl (by omega) (fun c60 => ?_) (fun c60 => absurd c60 (by omega))
    refine Ex_lconst (z := 0) dX12_frights_67 rfl (by decide) ?_
    refine Ex_lstore (L2 := [_, _, _, _, _, _, _, _, _, _, _, _, _, _, _, _, _]) dX12_frights_68 rfl rfl rfl ?_
    refine Ex_lconst (z := 1) dX12_frights_70 rfl (by decide) ?_
    refine Ex_lstore (L2 := [_, _, _, _, _, _, _, _, _, _, _, _, _, _, _, _, _]) dX12_frights_71 rfl rfl rfl ?_
    refine Ex_iconst dX12_frights_73 rfl ?_
    refine Ex_istore (L2 := [_, _, _, _, _, _, _, _, _, _, _, _, _, _, _, _, _]) dX12_frights_74 rfl rfl rfl ?_
    refine x12_frights_t hl8 (by omega) l 0 (by omega) ?_
    refine Ex_iconst dX12_frights_96 rfl ?_
    refine Ex_istore (L2 := [_, _, _, _, _, _, _, _, _, _, _, _, _, _, _, _, _]) dX12_frights_97 rfl rfl rfl ?_
    refine x12_frights_o M1_ hn hn6 hg hK hc9 hl8 (by omega) (by omega) rfl (2 ^ l) 0 0 _ _ _ _ _ _ (by omega) (fun b9 v11 v12 v13 v14 v15 v16 => ?_)
    rw [Int.zero_add, ct_sum (by omega), ← Int.natCast_pow]
    refine Ex_lload dX12_frights_264 rfl rfl ?_
    refine Ex_lload dX12_frights_266 rfl rfl ?_
    refine Ex_iload dX12_frights_268 rfl rfl ?_
    refine Ex_stat 0 dX12_frights_270 rfl rfl (Or.inl rfl) rfl rfl rfl rfl rfl rfl (Ex_post (x12_partOf (u := oc (K c) (F c) (S c + go) t (T c) (S c) l) (v := t ^ l) ⟨by have := tl_pow (t := t) (l := l) (by omega) hl8; omega, tl_pow (by omega) hl8⟩ q.2.2.2.2) ?_)
    rintro _ _ ⟨rfl, e0⟩
    obtain rfl := Eq.symm e0
    refine Ex_lret dX12_frights_273 rfl ?_
    refine ⟨?_, ⟨_, _, _, M1_, hn, h6, h23, hσ⟩, f1_⟩
    by_cases hu : oc (K c) (F c) (S c + go) t (T c) (S c) l = 0
    · rw [if_pos hu, part0 q.2.2.2.2 hu (Nat.pow_pos (by omega))]
    · rw [if_neg hu]
  · refine Ex_aload_n dX12_frights_0 rfl rfl ?_
    refine Ex_iconst dX12_frights_1 rfl ?_
    refine Ex_put12 (k0 := 13) (v := 0) dX12_frights_2 rfl (ma0 M) rfl rfl rfl rfl rfl (by omega) rfl ?_
    refine mg0 M ?_
    intro h1_ M1_ f1_
    refine Ex_aload_n dX12_frights_5 rfl rfl ?_
    refine Ex_iload_n dX12_frights_6 rfl rfl ?_
    refine Ex_inv 2 dX12_frights_7 rfl rfl (Or.inl rfl) rfl rfl rfl rfl (ma0 M1_) rfl rfl rfl (Ex_post (x12_isChild M1_ hn hn6 (by omega)) ?_)
    rintro _ _ ⟨rfl, e0⟩
    obtain rfl := Eq.symm e0
    refine Ex_if_eq (t := 63) dX12_frights_10 rfl rfl (by omega) (fun c10 => ?_) (fun c10 => ?_)
    · refine Ex_ldc2 (z := 1000000001) dX12_frights_63 rfl rfl ?_
      refine Ex_lret dX12_frights_66 rfl ?_
      exact ⟨by unfold an_frights; rw [if_neg q], ⟨_, _, _, M1_, hn, h6, h23, hσ⟩, f1_⟩
    · refine Ex_iload_n dX12_frights_13 rfl rfl ?_
      refine Ex_i2l dX12_frights_14 rfl (by omega) ?_
      refine Ex_lconst (z := 0) dX12_frights_15 rfl (by decide) ?_
      refine Ex_ldc2 (z := 8) dX12_frights_16 rfl rfl ?_
      refine Ex_stat 0 dX12_frights_19 rfl rfl (Or.inl rfl) rfl rfl rfl rfl rfl rfl (Ex_post (x12_in (by omega) (by omega) (by omega)) ?_)
      rintro _ _ ⟨rfl, e0⟩
      obtain rfl := Eq.symm e0
      refine Ex_if_eq (t := 63) dX12_frights_22 rfl rfl (by omega) (fun c22 => ?_) (fun c22 => ?_)
      · refine Ex_ldc2 (z := 1000000001) dX12_frights_63 rfl rfl ?_
        refine Ex_lret dX12_frights_66 rfl ?_
        exact ⟨by unfold an_frights; rw [if_neg q], ⟨_, _, _, M1_, hn, h6, h23, hσ⟩, f1_⟩
      · refine Ex_iload_n dX12_frights_25 rfl rfl ?_
        refine Ex_i2l dX12_frights_26 rfl (by omega) ?_
        refine Ex_lconst (z := 0) dX12_frights_27 rfl (by decide) ?_
        refine Ex_ldc2 (z := 7) dX12_frights_28 rfl rfl ?_
        refine Ex_stat 0 dX12_frights_31 rfl rfl (Or.inl rfl) rfl rfl rfl rfl rfl rfl (Ex_post (x12_in (by omega) (by omega) (by omega)) ?_)
        rintro _ _ ⟨rfl, e0⟩
        obtain rfl := Eq.symm e0
        refine Ex_if_eq (t := 63) dX12_frights_34 rfl rfl (by omega) (fun c34 => ?_) (fun c34 => ?_)
        · refine Ex_ldc2 (z := 1000000001) dX12_frights_63 rfl rfl ?_
          refine Ex_lret dX12_frights_66 rfl ?_
          exact ⟨by unfold an_frights; rw [if_neg q], ⟨_, _, _, M1_, hn, h6, h23, hσ⟩, f1_⟩
        · refine Ex_iload dX12_frights_37 rfl rfl ?_
          refine Ex_i2l dX12_frights_39 rfl (by omega) ?_
          refine Ex_ldc2 (z := 2) dX12_frights_40 rfl rfl ?_
          refine Ex_ldc2 (z := 20) dX12_frights_43 rfl rfl ?_
          refine Ex_stat 0 dX12_frights_46 rfl rfl (Or.inl rfl) rfl rfl rfl rfl rfl rfl (Ex_post (x12_in (by omega) (by omega) (by omega)) ?_)
          rintro _ _ ⟨rfl, e0⟩
          obtain rfl := Eq.symm e0
          refine Ex_if_eq (t := 63) dX12_frights_49 rfl rfl (by omega) (fun c49 => ?_) (fun c49 => ?_)
          · refine Ex_ldc2 (z := 1000000001) dX12_frights_63 rfl rfl ?_
            refine Ex_lret dX12_frights_66 rfl ?_
            exact ⟨by unfold an_frights; rw [if_neg q], ⟨_, _, _, M1_, hn, h6, h23, hσ⟩, f1_⟩
          · refine Ex_iload dX12_frights_52 rfl rfl ?_
            refine Ex_i2l dX12_frights_54 rfl (by omega) ?_
            refine Ex_lconst (z := 0) dX12_frights_55 rfl (by decide) ?_
            refine Ex_lconst (z := 1) dX12_frights_56 rfl (by decide) ?_
            refine Ex_stat 0 dX12_frights_57 rfl rfl (Or.inl rfl) rfl rfl rfl rfl rfl rfl (Ex_post (x12_in (by omega) (by omega) (by omega)) ?_)
            rintro _ _ ⟨rfl, e0⟩
            obtain rfl := Eq.symm e0
            refine Ex_if_ne (t := 67) dX12_frights_60 rfl rfl (by omega) (fun c60 => ?_) (fun c60 => ?_)
            · exfalso; omega
            · refine Ex_ldc2 (z := 1000000001) dX12_frights_63 rfl rfl ?_
              refine Ex_lret dX12_frights_66 rfl ?_
              exact ⟨by unfold an_frights; rw [if_neg q], ⟨_, _, _, M1_, hn, h6, h23, hσ⟩, f1_⟩
