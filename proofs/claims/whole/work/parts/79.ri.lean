/-! the reference: comes, cost, keep, row, put (by program: wip/whole/spec_ri.py) -/
theorem why_r {hw : Nat → Int} {a : Int} : -12 ≤ why hw a ∧ why hw a ≤ -1 := by
  unfold why
  by_cases p : 0 ≤ a ∧ a ≤ 7
  · rw [if_pos p]; split <;> omega
  · rw [if_neg p]; omega
theorem x12_childComes1 {E : am_E} {d : Nat} {h : Hp} {m n : Nat} {g K F T S C : Nat → Int} {ρ : Nat → Nat → Int} {kp : Value} {k f t : Int}  (M : MAt h m g K F T S C ρ kp) (hn : g 0 = (n : Int)) (hB : E.2 ≤ m) (hq : (0 ≤ k ∧ k < 8) ∧ (0 ≤ t ∧ t ≤ 20) ∧ n < 6) (hf : 0 ≤ f ∧ f ≤ 9)  : Ex E d mX12_childComes 0 [.ref m, .int (i32 k), .int (i32 f), .int (i32 t), .retAddr 0] [] h (fun r1 h1 => r1 = some (.int (i32 1)) ∧ MAt h1 m (fu g 0 (g 0 + 1)) (fu K n k) (fu F n f) (fu T n t) (fu S n 0) (fu C n 0) ρ kp ∧ Fr h h1 m (m + 23)) := by
  refine Ex_iload_n dX12_childComes_0 rfl rfl ?_
  refine Ex_bipush dX12_childComes_1 rfl (by decide) ?_
  refine Ex_icmp_ge (t := 25) dX12_childComes_3 rfl rfl (by omega) (fun c3 => absurd c3 (by omega)) (fun c3 => ?_)
  refine Ex_iload_n dX12_childComes_6 rfl rfl ?_
  refine Ex_bipush dX12_childComes_7 rfl (by decide) ?_
  refine Ex_icmp_gt (t := 25) dX12_childComes_9 rfl rfl (by omega) (fun c9 => absurd c9 (by omega)) (fun c9 => ?_)
  refine Ex_aload_n dX12_childComes_12 rfl rfl ?_
  refine Ex_getf dX12_childComes_13 rfl (ma0 M) rfl rfl rfl ?_
  refine Ex_bipush dX12_childComes_16 rfl (by decide) ?_
  refine Ex_icmp_ge (t := 25) dX12_childComes_18 rfl rfl (by omega) (fun c18 => absurd c18 (by omega)) (fun c18 => ?_)
  refine Ex_iconst dX12_childComes_21 rfl ?_
  refine Ex_goto (t := 26) dX12_childComes_22 rfl ?_
  refine Ex_istore (L2 := [_, _, _, _, _]) dX12_childComes_26 rfl rfl rfl ?_
  refine Ex_iload dX12_childComes_28 rfl rfl ?_
  refine Ex_if_eq (t := 93) dX12_childComes_30 rfl rfl (by omega) (fun c30 => absurd c30 (by omega)) (fun c30 => ?_)
  refine Ex_aload_n dX12_childComes_33 rfl rfl ?_
  refine Ex_getf dX12_childComes_34 rfl (ma0 M) rfl rfl rfl ?_
  refine Ex_aload_n dX12_childComes_37 rfl rfl ?_
  refine Ex_getf dX12_childComes_38 rfl (ma0 M) rfl rfl rfl ?_
  refine Ex_iload_n dX12_childComes_41 rfl rfl ?_
  refine Ex_iast12 (c := n) dX12_childComes_42 rfl (ma1 M) hn (by omega) (by omega) ?_
  refine mg1 M ?_
  intro h1_ M1_ f1_
  refine Ex_aload_n dX12_childComes_43 rfl rfl ?_
  refine Ex_getf dX12_childComes_44 rfl (ma0 M1_) rfl rfl rfl ?_
  refine Ex_aload_n dX12_childComes_47 rfl rfl ?_
  refine Ex_getf dX12_childComes_48 rfl (ma0 M1_) rfl rfl rfl ?_
  refine Ex_iload_n dX12_childComes_51 rfl rfl ?_
  refine Ex_iast12 (c := n) dX12_childComes_52 rfl (ma2 M1_) hn (by omega) (by omega) ?_
  refine mg2 M1_ ?_
  intro h2_ M2_ f2_
  refine Ex_aload_n dX12_childComes_53 rfl rfl ?_
  refine Ex_getf dX12_childComes_54 rfl (ma0 M2_) rfl rfl rfl ?_
  refine Ex_aload_n dX12_childComes_57 rfl rfl ?_
  refine Ex_getf dX12_childComes_58 rfl (ma0 M2_) rfl rfl rfl ?_
  refine Ex_iload_n dX12_childComes_61 rfl rfl ?_
  refine Ex_iast12 (c := n) dX12_childComes_62 rfl (ma3 M2_) hn (by omega) (by omega) ?_
  refine mg3 M2_ ?_
  intro h3_ M3_ f3_
  refine Ex_aload_n dX12_childComes_63 rfl rfl ?_
  refine Ex_getf dX12_childComes_64 rfl (ma0 M3_) rfl rfl rfl ?_
  refine Ex_aload_n dX12_childComes_67 rfl rfl ?_
  refine Ex_getf dX12_childComes_68 rfl (ma0 M3_) rfl rfl rfl ?_
  refine Ex_iconst dX12_childComes_71 rfl ?_
  refine Ex_iast12 (c := n) dX12_childComes_72 rfl (ma4 M3_) hn (by omega) (by omega) ?_
  refine mg4 M3_ ?_
  intro h4_ M4_ f4_
  refine Ex_aload_n dX12_childComes_73 rfl rfl ?_
  refine Ex_getf dX12_childComes_74 rfl (ma0 M4_) rfl rfl rfl ?_
  refine Ex_aload_n dX12_childComes_77 rfl rfl ?_
  refine Ex_getf dX12_childComes_78 rfl (ma0 M4_) rfl rfl rfl ?_
  refine Ex_iconst dX12_childComes_81 rfl ?_
  refine Ex_iast12 (c := n) dX12_childComes_82 rfl (ma5 M4_) hn (by omega) (by omega) ?_
  refine mg5 M4_ ?_
  intro h5_ M5_ f5_
  refine Ex_aload_n dX12_childComes_83 rfl rfl ?_
  refine Ex_dup dX12_childComes_84 rfl rfl ?_
  refine Ex_getf dX12_childComes_85 rfl (ma0 M5_) rfl rfl rfl ?_
  refine Ex_iconst dX12_childComes_88 rfl ?_
  refine Ex_iadd dX12_childComes_89 rfl ?_
  refine Ex_put12 (k0 := 0) (v := (g 0 + 1)) dX12_childComes_90 rfl (ma0 M5_) rfl rfl rfl rfl rfl (by omega) rfl ?_
  refine mg0 M5_ ?_
  intro h6_ M6_ f6_
  refine Ex_iload dX12_childComes_93 rfl rfl ?_
  refine Ex_iret dX12_childComes_95 rfl rfl ?_
  exact ⟨rfl, M6_, (f1_.trans (f2_.trans (f3_.trans (f4_.trans (f5_.trans f6_)))))⟩
theorem x12_childComes0 {E : am_E} {d : Nat} {h : Hp} {m n : Nat} {g K F T S C : Nat → Int} {ρ : Nat → Nat → Int} {kp : Value} {k f t : Int}  (M : MAt h m g K F T S C ρ kp) (hn : g 0 = (n : Int)) (hB : E.2 ≤ m) (hk : 0 ≤ k ∧ k ≤ 99) (ht : 0 ≤ t ∧ t ≤ 99) (hn6 : n ≤ 6) (hq : ¬ (k < 8 ∧ t ≤ 20 ∧ n < 6))  : Ex E d mX12_childComes 0 [.ref m, .int (i32 k), .int (i32 f), .int (i32 t), .retAddr 0] [] h (fun r1 h1 => r1 = some (.int (i32 0)) ∧ h1 = h) := by
  refine Ex_iload_n dX12_childComes_0 rfl rfl ?_
  refine Ex_bipush dX12_childComes_1 rfl (by decide) ?_
  refine Ex_icmp_ge (t := 25) dX12_childComes_3 rfl rfl (by omega) (fun c3 => ?_) (fun c3 => ?_)
  · refine Ex_iconst dX12_childComes_25 rfl ?_
    refine Ex_istore (L2 := [_, _, _, _, _]) dX12_childComes_26 rfl rfl rfl ?_
    refine Ex_iload dX12_childComes_28 rfl rfl ?_
    refine Ex_if_eq (t := 93) dX12_childComes_30 rfl rfl (by omega) (fun c30 => ?_) (fun c30 => absurd c30 (by omega))
    refine Ex_iload dX12_childComes_93 rfl rfl ?_
    refine Ex_iret dX12_childComes_95 rfl rfl ?_
    exact ⟨rfl, rfl⟩
  · refine Ex_iload_n dX12_childComes_6 rfl rfl ?_
    refine Ex_bipush dX12_childComes_7 rfl (by decide) ?_
    refine Ex_icmp_gt (t := 25) dX12_childComes_9 rfl rfl (by omega) (fun c9 => ?_) (fun c9 => ?_)
    · refine Ex_iconst dX12_childComes_25 rfl ?_
      refine Ex_istore (L2 := [_, _, _, _, _]) dX12_childComes_26 rfl rfl rfl ?_
      refine Ex_iload dX12_childComes_28 rfl rfl ?_
      refine Ex_if_eq (t := 93) dX12_childComes_30 rfl rfl (by omega) (fun c30 => ?_) (fun c30 => absurd c30 (by omega))
      refine Ex_iload dX12_childComes_93 rfl rfl ?_
      refine Ex_iret dX12_childComes_95 rfl rfl ?_
      exact ⟨rfl, rfl⟩
    · refine Ex_aload_n dX12_childComes_12 rfl rfl ?_
      refine Ex_getf dX12_childComes_13 rfl (ma0 M) rfl rfl rfl ?_
      refine Ex_bipush dX12_childComes_16 rfl (by decide) ?_
      refine Ex_icmp_ge (t := 25) dX12_childComes_18 rfl rfl (by omega) (fun c18 => ?_) (fun c18 => ?_)
      · refine Ex_iconst dX12_childComes_25 rfl ?_
        refine Ex_istore (L2 := [_, _, _, _, _]) dX12_childComes_26 rfl rfl rfl ?_
        refine Ex_iload dX12_childComes_28 rfl rfl ?_
        refine Ex_if_eq (t := 93) dX12_childComes_30 rfl rfl (by omega) (fun c30 => ?_) (fun c30 => absurd c30 (by omega))
        refine Ex_iload dX12_childComes_93 rfl rfl ?_
        refine Ex_iret dX12_childComes_95 rfl rfl ?_
        exact ⟨rfl, rfl⟩
      · exfalso; omega
theorem x12_comes {E : am_E} {d : Nat} {h : Hp} {m n : Nat} {mm hi : Int} {K F T S C : Nat → Int} {σ : Nat → Nat → Int} {hw ck cf rs : Nat → Int} {rx : Nat → List Int} {a t : Int}  (I : MI h m (n, mm, K, F, T, S, C) hi σ) (hn6 : n ≤ 6) (hg : Rng n T S C) (hK : ∀ i, i < n → (0 ≤ K i ∧ K i ≤ 7) ∧ (0 ≤ F i ∧ F i ≤ 9)) (hB : E.2 ≤ m) (V : Sv σ hw ck cf rs rx) (ha : (-2147483648 ≤ a ∧ a ≤ 2147483647)) (ht : (-2147483648 ≤ t ∧ t ≤ 2147483647))  : Ex E (d + 2) mX12_comes 0 [.ref m, .int (i32 a), .int (i32 t), .retAddr 0] [] h (fun r1 h1 => r1 = some (.int (i32 (do_comes hw ck cf a t (n, mm, K, F, T, S, C)).1)) ∧ (∃ σ2, MI h1 m (do_comes hw ck cf a t (n, mm, K, F, T, S, C)).2 hi σ2 ∧ Sv σ2 hw ck cf rs rx ∧ σ2 16 = σ 16) ∧ Fr h h1 m (m + 23)) := by
  obtain ⟨g, ρ, kp, M, hn, h6, h23, hσ⟩ := I
  have M : MAt h m g K F T S C ρ kp := M
  have hn : g 0 = (n : Int) := hn
  have h6 : g 6 = mm := h6
  have V : Sv ρ hw ck cf rs rx := V.cg hσ
  have h16 : ρ 16 = σ 16 := hσ 16 (Or.inr rfl)
  clear hσ
  have hσ : ∀ j, (6 ≤ j ∧ j ≤ 11) ∨ j = 16 → ρ j = ρ j := fun _ _ => rfl
  by_cases q : (0 ≤ a ∧ a ≤ 7) ∧ (0 ≤ t ∧ t ≤ 20)
  · by_cases q1 : hw a.toNat = 1
    · by_cases q2 : n < 6
      · have ea : do_comes hw ck cf a t (n, mm, K, F, T, S, C) = ((n : Int), rsC (ck a.toNat) (cf a.toNat) t (n, mm, K, F, T, S, C)) := by unfold do_comes; rw [if_pos q, if_pos q1]; exact if_pos q2
        rw [ea]
        obtain ⟨a, rfl⟩ := Int.eq_ofNat_of_zero_le q.1.1
        have q1n : hw a = 1 := q1
        obtain ⟨v6, v3, vk, vr⟩ := V a (by omega)
        obtain ⟨⟨k1, k2⟩, k3, k4⟩ := vk q1n
        refine Ex_aload_n dX12_comes_0 rfl rfl ?_
        refine Ex_iconst dX12_comes_1 rfl ?_
        refine Ex_put12 (k0 := 13) (v := 0) dX12_comes_2 rfl (ma0 M) rfl rfl rfl rfl rfl (by omega) rfl ?_
        refine mg0 M ?_
        intro h1_ M1_ f1_
        refine Ex_iload_n dX12_comes_5 rfl rfl ?_
        refine Ex_i2l dX12_comes_6 rfl (by omega) ?_
        refine Ex_lconst (z := 0) dX12_comes_7 rfl (by decide) ?_
        refine Ex_ldc2 (z := 20) dX12_comes_8 rfl rfl ?_
        refine Ex_stat 0 dX12_comes_11 rfl rfl (Or.inl rfl) rfl rfl rfl rfl rfl rfl (Ex_post (x12_in (by omega) (by omega) (by omega)) ?_)
        rintro _ _ ⟨rfl, e0⟩
        obtain rfl := Eq.symm e0
        refine Ex_if_eq (t := 25) dX12_comes_14 rfl rfl (by omega) (fun c14 => absurd c14 (by omega)) (fun c14 => ?_)
        refine Ex_aload_n dX12_comes_17 rfl rfl ?_
        refine Ex_iload_n dX12_comes_18 rfl rfl ?_
        refine Ex_inv 2 dX12_comes_19 rfl rfl (Or.inl rfl) rfl rfl rfl rfl (ma0 M1_) rfl rfl rfl (Ex_post (x12_wK M1_ V (by omega)) ?_)
        rintro _ _ ⟨rfl, e0⟩
        obtain rfl := Eq.symm e0
        rw [if_pos ⟨q.1, q1⟩]
        refine Ex_goto (t := 26) dX12_comes_22 rfl ?_
        refine Ex_istore_n (L2 := [_, _, _, _]) dX12_comes_26 rfl rfl rfl ?_
        refine Ex_iload_n dX12_comes_27 rfl rfl ?_
        refine Ex_if_ge (t := 33) dX12_comes_28 rfl rfl (by omega) (fun c28 => ?_) (fun c28 => absurd c28 (by omega))
        refine Ex_aload_n dX12_comes_33 rfl rfl ?_
        refine Ex_aload_n dX12_comes_34 rfl rfl ?_
        refine Ex_getf dX12_comes_35 rfl (ma0 M1_) rfl rfl rfl ?_
        refine Ex_iload_n dX12_comes_38 rfl rfl ?_
        refine Ex_iald12 (c := a) dX12_comes_39 rfl (ma7 M1_) (by omega) (by omega) ?_
        rw [k1]
        refine Ex_aload_n dX12_comes_40 rfl rfl ?_
        refine Ex_getf dX12_comes_41 rfl (ma0 M1_) rfl rfl rfl ?_
        refine Ex_iload_n dX12_comes_44 rfl rfl ?_
        refine Ex_iald12 (c := a) dX12_comes_45 rfl (ma8 M1_) (by omega) (by omega) ?_
        rw [k2]
        refine Ex_iload_n dX12_comes_46 rfl rfl ?_
        refine Ex_inv 2 dX12_comes_47 rfl rfl (Or.inl rfl) rfl rfl rfl rfl (ma0 M1_) rfl rfl rfl (Ex_post (x12_childComes1 M1_ hn hB ⟨by omega, q.2, q2⟩ k4) ?_)
        rintro _ h2_ ⟨rfl, M2_, f2_⟩
        refine Ex_if_eq (t := 62) dX12_comes_50 rfl rfl (by omega) (fun c50 => absurd c50 (by omega)) (fun c50 => ?_)
        refine Ex_aload_n dX12_comes_53 rfl rfl ?_
        refine Ex_getf dX12_comes_54 rfl (ma0 M2_) rfl rfl rfl ?_
        rw [show (fu (fu g 13 0) 0 (fu g 13 0 0 + 1)) 0 = (fu g 13 0 0 + 1) from rfl]
        refine Ex_iconst dX12_comes_57 rfl ?_
        refine Ex_isub dX12_comes_58 rfl ?_
        refine Ex_goto (t := 64) dX12_comes_59 rfl ?_
        refine Ex_iret dX12_comes_64 rfl rfl ?_
        refine ⟨ri (by show g 0 + 1 - 1 = (n : Int); omega), ⟨_, ⟨_, _, _, M2_, ?_, h6, h23, fun _ _ => rfl⟩, V, h16⟩, (f1_.trans f2_)⟩
        show g 0 + 1 = ((n + 1 : Nat) : Int)
        omega
      · have ea : do_comes hw ck cf a t (n, mm, K, F, T, S, C) = (-2, (n, mm, K, F, T, S, C)) := by unfold do_comes; rw [if_pos q, if_pos q1]; exact if_neg q2
        rw [ea]
        obtain ⟨a, rfl⟩ := Int.eq_ofNat_of_zero_le q.1.1
        have q1n : hw a = 1 := q1
        obtain ⟨v6, v3, vk, vr⟩ := V a (by omega)
        obtain ⟨⟨k1, k2⟩, k3, k4⟩ := vk q1n
        refine Ex_aload_n dX12_comes_0 rfl rfl ?_
        refine Ex_iconst dX12_comes_1 rfl ?_
        refine Ex_put12 (k0 := 13) (v := 0) dX12_comes_2 rfl (ma0 M) rfl rfl rfl rfl rfl (by omega) rfl ?_
        refine mg0 M ?_
        intro h1_ M1_ f1_
        refine Ex_iload_n dX12_comes_5 rfl rfl ?_
        refine Ex_i2l dX12_comes_6 rfl (by omega) ?_
        refine Ex_lconst (z := 0) dX12_comes_7 rfl (by decide) ?_
        refine Ex_ldc2 (z := 20) dX12_comes_8 rfl rfl ?_
        refine Ex_stat 0 dX12_comes_11 rfl rfl (Or.inl rfl) rfl rfl rfl rfl rfl rfl (Ex_post (x12_in (by omega) (by omega) (by omega)) ?_)
        rintro _ _ ⟨rfl, e0⟩
        obtain rfl := Eq.symm e0
        refine Ex_if_eq (t := 25) dX12_comes_14 rfl rfl (by omega) (fun c14 => absurd c14 (by omega)) (fun c14 => ?_)
        refine Ex_aload_n dX12_comes_17 rfl rfl ?_
        refine Ex_iload_n dX12_comes_18 rfl rfl ?_
        refine Ex_inv 2 dX12_comes_19 rfl rfl (Or.inl rfl) rfl rfl rfl rfl (ma0 M1_) rfl rfl rfl (Ex_post (x12_wK M1_ V (by omega)) ?_)
        rintro _ _ ⟨rfl, e0⟩
        obtain rfl := Eq.symm e0
        rw [if_pos ⟨q.1, q1⟩]
        refine Ex_goto (t := 26) dX12_comes_22 rfl ?_
        refine Ex_istore_n (L2 := [_, _, _, _]) dX12_comes_26 rfl rfl rfl ?_
        refine Ex_iload_n dX12_comes_27 rfl rfl ?_
        refine Ex_if_ge (t := 33) dX12_comes_28 rfl rfl (by omega) (fun c28 => ?_) (fun c28 => absurd c28 (by omega))
        refine Ex_aload_n dX12_comes_33 rfl rfl ?_
        refine Ex_aload_n dX12_comes_34 rfl rfl ?_
        refine Ex_getf dX12_comes_35 rfl (ma0 M1_) rfl rfl rfl ?_
        refine Ex_iload_n dX12_comes_38 rfl rfl ?_
        refine Ex_iald12 (c := a) dX12_comes_39 rfl (ma7 M1_) (by omega) (by omega) ?_
        rw [k1]
        refine Ex_aload_n dX12_comes_40 rfl rfl ?_
        refine Ex_getf dX12_comes_41 rfl (ma0 M1_) rfl rfl rfl ?_
        refine Ex_iload_n dX12_comes_44 rfl rfl ?_
        refine Ex_iald12 (c := a) dX12_comes_45 rfl (ma8 M1_) (by omega) (by omega) ?_
        rw [k2]
        refine Ex_iload_n dX12_comes_46 rfl rfl ?_
        refine Ex_inv 2 dX12_comes_47 rfl rfl (Or.inl rfl) rfl rfl rfl rfl (ma0 M1_) rfl rfl rfl (Ex_post (x12_childComes0 M1_ hn hB (by omega) (by omega) hn6 (by omega)) ?_)
        rintro _ _ ⟨rfl, e0⟩
        obtain rfl := Eq.symm e0
        refine Ex_if_eq (t := 62) dX12_comes_50 rfl rfl (by omega) (fun c50 => ?_) (fun c50 => absurd c50 (by omega))
        refine Ex_bipush dX12_comes_62 rfl (by decide) ?_
        refine Ex_iret dX12_comes_64 rfl rfl ?_
        exact ⟨rfl, ⟨_, ⟨_, _, _, M1_, hn, h6, h23, fun _ _ => rfl⟩, V, h16⟩, f1_⟩
    · have gw := why_r (hw := hw) (a := a)
      have ea : do_comes hw ck cf a t (n, mm, K, F, T, S, C) = (why hw a, (n, mm, K, F, T, S, C)) := by unfold do_comes; rw [if_pos q, if_neg q1]
      rw [ea]
      refine Ex_aload_n dX12_comes_0 rfl rfl ?_
      refine Ex_iconst dX12_comes_1 rfl ?_
      refine Ex_put12 (k0 := 13) (v := 0) dX12_comes_2 rfl (ma0 M) rfl rfl rfl rfl rfl (by omega) rfl ?_
      refine mg0 M ?_
      intro h1_ M1_ f1_
      refine Ex_iload_n dX12_comes_5 rfl rfl ?_
      refine Ex_i2l dX12_comes_6 rfl (by omega) ?_
      refine Ex_lconst (z := 0) dX12_comes_7 rfl (by decide) ?_
      refine Ex_ldc2 (z := 20) dX12_comes_8 rfl rfl ?_
      refine Ex_stat 0 dX12_comes_11 rfl rfl (Or.inl rfl) rfl rfl rfl rfl rfl rfl (Ex_post (x12_in (by omega) (by omega) (by omega)) ?_)
      rintro _ _ ⟨rfl, e0⟩
      obtain rfl := Eq.symm e0
      refine Ex_if_eq (t := 25) dX12_comes_14 rfl rfl (by omega) (fun c14 => absurd c14 (by omega)) (fun c14 => ?_)
      refine Ex_aload_n dX12_comes_17 rfl rfl ?_
      refine Ex_iload_n dX12_comes_18 rfl rfl ?_
      refine Ex_inv 2 dX12_comes_19 rfl rfl (Or.inl rfl) rfl rfl rfl rfl (ma0 M1_) rfl rfl rfl (Ex_post (x12_wK M1_ V (by omega)) ?_)
      rintro _ _ ⟨rfl, e0⟩
      obtain rfl := Eq.symm e0
      rw [if_neg (fun z => q1 z.2)]
      refine Ex_goto (t := 26) dX12_comes_22 rfl ?_
      refine Ex_istore_n (L2 := [_, _, _, _]) dX12_comes_26 rfl rfl rfl ?_
      refine Ex_iload_n dX12_comes_27 rfl rfl ?_
      refine Ex_if_ge (t := 33) dX12_comes_28 rfl rfl (by omega) (fun c28 => absurd c28 (by omega)) (fun c28 => ?_)
      refine Ex_iload_n dX12_comes_31 rfl rfl ?_
      refine Ex_iret dX12_comes_32 rfl rfl ?_
      exact ⟨rfl, ⟨_, ⟨_, _, _, M1_, hn, h6, h23, fun _ _ => rfl⟩, V, h16⟩, f1_⟩
  · by_cases q0 : 0 ≤ t ∧ t ≤ 20
    · have ea : do_comes hw ck cf a t (n, mm, K, F, T, S, C) = (-1, (n, mm, K, F, T, S, C)) := by unfold do_comes; exact if_neg q
      rw [ea]
      have gw1 : why hw a = -1 := by unfold why; exact if_neg (fun z => q ⟨z, q0⟩)
      refine Ex_aload_n dX12_comes_0 rfl rfl ?_
      refine Ex_iconst dX12_comes_1 rfl ?_
      refine Ex_put12 (k0 := 13) (v := 0) dX12_comes_2 rfl (ma0 M) rfl rfl rfl rfl rfl (by omega) rfl ?_
      refine mg0 M ?_
      intro h1_ M1_ f1_
      refine Ex_iload_n dX12_comes_5 rfl rfl ?_
      refine Ex_i2l dX12_comes_6 rfl (by omega) ?_
      refine Ex_lconst (z := 0) dX12_comes_7 rfl (by decide) ?_
      refine Ex_ldc2 (z := 20) dX12_comes_8 rfl rfl ?_
      refine Ex_stat 0 dX12_comes_11 rfl rfl (Or.inl rfl) rfl rfl rfl rfl rfl rfl (Ex_post (x12_in (by omega) (by omega) (by omega)) ?_)
      rintro _ _ ⟨rfl, e0⟩
      obtain rfl := Eq.symm e0
      refine Ex_if_eq (t := 25) dX12_comes_14 rfl rfl (by omega) (fun c14 => absurd c14 (by omega)) (fun c14 => ?_)
      refine Ex_aload_n dX12_comes_17 rfl rfl ?_
      refine Ex_iload_n dX12_comes_18 rfl rfl ?_
      refine Ex_inv 2 dX12_comes_19 rfl rfl (Or.inl rfl) rfl rfl rfl rfl (ma0 M1_) rfl rfl rfl (Ex_post (x12_wK M1_ V (by omega)) ?_)
      rintro _ _ ⟨rfl, e0⟩
      obtain rfl := Eq.symm e0
      rw [if_neg (fun z => q ⟨z.1, q0⟩), gw1]
      refine Ex_goto (t := 26) dX12_comes_22 rfl ?_
      refine Ex_istore_n (L2 := [_, _, _, _]) dX12_comes_26 rfl rfl rfl ?_
      refine Ex_iload_n dX12_comes_27 rfl rfl ?_
      refine Ex_if_ge (t := 33) dX12_comes_28 rfl rfl (by omega) (fun c28 => absurd c28 (by omega)) (fun c28 => ?_)
      refine Ex_iload_n dX12_comes_31 rfl rfl ?_
      refine Ex_iret dX12_comes_32 rfl rfl ?_
      exact ⟨rfl, ⟨_, ⟨_, _, _, M1_, hn, h6, h23, fun _ _ => rfl⟩, V, h16⟩, f1_⟩
    · have ea : do_comes hw ck cf a t (n, mm, K, F, T, S, C) = (-1, (n, mm, K, F, T, S, C)) := by unfold do_comes; exact if_neg q
      rw [ea]
      refine Ex_aload_n dX12_comes_0 rfl rfl ?_
      refine Ex_iconst dX12_comes_1 rfl ?_
      refine Ex_put12 (k0 := 13) (v := 0) dX12_comes_2 rfl (ma0 M) rfl rfl rfl rfl rfl (by omega) rfl ?_
      refine mg0 M ?_
      intro h1_ M1_ f1_
      refine Ex_iload_n dX12_comes_5 rfl rfl ?_
      refine Ex_i2l dX12_comes_6 rfl (by omega) ?_
      refine Ex_lconst (z := 0) dX12_comes_7 rfl (by decide) ?_
      refine Ex_ldc2 (z := 20) dX12_comes_8 rfl rfl ?_
      refine Ex_stat 0 dX12_comes_11 rfl rfl (Or.inl rfl) rfl rfl rfl rfl rfl rfl (Ex_post (x12_in (by omega) (by omega) (by omega)) ?_)
      rintro _ _ ⟨rfl, e0⟩
      obtain rfl := Eq.symm e0
      refine Ex_if_eq (t := 25) dX12_comes_14 rfl rfl (by omega) (fun c14 => ?_) (fun c14 => absurd c14 (by omega))
      refine Ex_iconst dX12_comes_25 rfl ?_
      refine Ex_istore_n (L2 := [_, _, _, _]) dX12_comes_26 rfl rfl rfl ?_
      refine Ex_iload_n dX12_comes_27 rfl rfl ?_
      refine Ex_if_ge (t := 33) dX12_comes_28 rfl rfl (by omega) (fun c28 => absurd c28 (by omega)) (fun c28 => ?_)
      refine Ex_iload_n dX12_comes_31 rfl rfl ?_
      refine Ex_iret dX12_comes_32 rfl rfl ?_
      exact ⟨rfl, ⟨_, ⟨_, _, _, M1_, hn, h6, h23, fun _ _ => rfl⟩, V, h16⟩, f1_⟩
theorem x12_costOf {E : am_E} {d : Nat} {h : Hp} {k f : Int}  (hk : 0 ≤ k ∧ k ≤ 7) (hf : 0 ≤ f ∧ f ≤ 9)  : Ex E d mX12_costOf 0 [.int (i32 k), .int (i32 f), .retAddr 0] [] h (fun r1 h1 => r1 = some (.int (i32 (sp_price k f))) ∧ h1 = h) := by
  refine Ex_iconst dX12_costOf_0 rfl ?_
  refine Ex_iload_n dX12_costOf_1 rfl rfl ?_
  refine Ex_iadd dX12_costOf_2 rfl ?_
  refine Ex_istore_n (L2 := [_, _, _]) dX12_costOf_3 rfl rfl rfl ?_
  refine Ex_iload_n dX12_costOf_4 rfl rfl ?_
  rcases (show k = 0 ∨ k = 1 ∨ k = 2 ∨ k = 3 ∨ k = 4 ∨ k = 5 ∨ k = 6 ∨ (k < 0 ∨ 6 < k) by omega) with e | e | e | e | e | e | e | e
  · subst e
    refine Ex_tabIn (off := 43) (t := 48) (0) dX12_costOf_5 rfl (by omega) (by omega) rfl rfl ?_
    refine Ex_iconst dX12_costOf_48 rfl ?_
    refine Ex_iret dX12_costOf_49 rfl rfl ?_
    exact ⟨ri (by simp [sp_price]), rfl⟩
  · subst e
    refine Ex_tabIn (off := 45) (t := 50) (1) dX12_costOf_5 rfl (by omega) (by omega) rfl rfl ?_
    refine Ex_iload_n dX12_costOf_50 rfl rfl ?_
    refine Ex_iret dX12_costOf_51 rfl rfl ?_
    exact ⟨ri (by simp [sp_price]), rfl⟩
  · subst e
    refine Ex_tabIn (off := 47) (t := 52) (2) dX12_costOf_5 rfl (by omega) (by omega) rfl rfl ?_
    refine Ex_iconst dX12_costOf_52 rfl ?_
    refine Ex_iret dX12_costOf_53 rfl rfl ?_
    exact ⟨ri (by simp [sp_price]), rfl⟩
  · subst e
    refine Ex_tabIn (off := 49) (t := 54) (3) dX12_costOf_5 rfl (by omega) (by omega) rfl rfl ?_
    refine Ex_bipush dX12_costOf_54 rfl (by decide) ?_
    refine Ex_iret dX12_costOf_56 rfl rfl ?_
    exact ⟨ri (by simp [sp_price]), rfl⟩
  · subst e
    refine Ex_tabIn (off := 52) (t := 57) (4) dX12_costOf_5 rfl (by omega) (by omega) rfl rfl ?_
    refine Ex_iload_n dX12_costOf_57 rfl rfl ?_
    refine Ex_iconst dX12_costOf_58 rfl ?_
    refine Ex_isub dX12_costOf_59 rfl ?_
    refine Ex_iret dX12_costOf_60 rfl rfl ?_
    exact ⟨ri (by simp [sp_price]), rfl⟩
  · subst e
    refine Ex_tabIn (off := 56) (t := 61) (5) dX12_costOf_5 rfl (by omega) (by omega) rfl rfl ?_
    refine Ex_iload_n dX12_costOf_61 rfl rfl ?_
    refine Ex_iconst dX12_costOf_62 rfl ?_
    refine Ex_iadd dX12_costOf_63 rfl ?_
    refine Ex_iret dX12_costOf_64 rfl rfl ?_
    exact ⟨ri (by simp [sp_price]), rfl⟩
  · subst e
    refine Ex_tabIn (off := 60) (t := 65) (6) dX12_costOf_5 rfl (by omega) (by omega) rfl rfl ?_
    refine Ex_iconst dX12_costOf_65 rfl ?_
    refine Ex_iload_n dX12_costOf_66 rfl rfl ?_
    refine Ex_iadd dX12_costOf_67 rfl ?_
    refine Ex_iret dX12_costOf_68 rfl rfl ?_
    exact ⟨ri (by simp [sp_price]), rfl⟩
  · refine Ex_tabOut (t := 69) dX12_costOf_5 rfl (by omega) e ?_
    refine Ex_iload_n dX12_costOf_69 rfl rfl ?_
    refine Ex_iconst dX12_costOf_70 rfl ?_
    refine Ex_idiv dX12_costOf_71 rfl (by omega) (by omega) ?_
    refine Ex_iret dX12_costOf_72 rfl rfl ?_
    exact ⟨ri (by simp only [sp_price]; repeat rw [if_neg (by omega)]), rfl⟩
theorem x12_cost {E : am_E} {d : Nat} {h : Hp} {m n : Nat} {mm hi : Int} {K F T S C : Nat → Int} {σ : Nat → Nat → Int} {hw ck cf rs : Nat → Int} {rx : Nat → List Int} {a : Int}  (I : MI h m (n, mm, K, F, T, S, C) hi σ) (hn6 : n ≤ 6) (hg : Rng n T S C) (hK : ∀ i, i < n → (0 ≤ K i ∧ K i ≤ 7) ∧ (0 ≤ F i ∧ F i ≤ 9)) (hB : E.2 ≤ m) (V : Sv σ hw ck cf rs rx) (ha : (-2147483648 ≤ a ∧ a ≤ 2147483647))  : Ex E (d + 2) mX12_cost 0 [.ref m, .int (i32 a)] [] h (fun r1 h1 => r1 = some (.int (i32 (an_cost hw ck cf a))) ∧ (∃ σ2, MI h1 m (n, mm, K, F, T, S, C) hi σ2 ∧ Sv σ2 hw ck cf rs rx ∧ σ2 16 = σ 16) ∧ Fr h h1 m (m + 23)) := by
  obtain ⟨g, ρ, kp, M, hn, h6, h23, hσ⟩ := I
  have M : MAt h m g K F T S C ρ kp := M
  have hn : g 0 = (n : Int) := hn
  have h6 : g 6 = mm := h6
  have V : Sv ρ hw ck cf rs rx := V.cg hσ
  have h16 : ρ 16 = σ 16 := hσ 16 (Or.inr rfl)
  clear hσ
  have hσ : ∀ j, (6 ≤ j ∧ j ≤ 11) ∨ j = 16 → ρ j = ρ j := fun _ _ => rfl
  by_cases q : (0 ≤ a ∧ a ≤ 7) ∧ hw a.toNat = 1
  · have ea : an_cost hw ck cf a = sp_price (ck a.toNat) (cf a.toNat) := if_pos q
    rw [ea]
    obtain ⟨a, rfl⟩ := Int.eq_ofNat_of_zero_le q.1.1
    have q1n : hw a = 1 := q.2
    obtain ⟨v6, v3, vk, vr⟩ := V a (by omega)
    obtain ⟨⟨k1, k2⟩, k3, k4⟩ := vk q1n
    refine Ex_aload_n dX12_cost_0 rfl rfl ?_
    refine Ex_iconst dX12_cost_1 rfl ?_
    refine Ex_put12 (k0 := 13) (v := 0) dX12_cost_2 rfl (ma0 M) rfl rfl rfl rfl rfl (by omega) rfl ?_
    refine mg0 M ?_
    intro h1_ M1_ f1_
    refine Ex_aload_n dX12_cost_5 rfl rfl ?_
    refine Ex_iload_n dX12_cost_6 rfl rfl ?_
    refine Ex_inv 2 dX12_cost_7 rfl rfl (Or.inl rfl) rfl rfl rfl rfl (ma0 M1_) rfl rfl rfl (Ex_post (x12_wK M1_ V (by omega)) ?_)
    rintro _ _ ⟨rfl, e0⟩
    obtain rfl := Eq.symm e0
    rw [if_pos ⟨q.1, q.2⟩]
    refine Ex_if_ge (t := 21) dX12_cost_10 rfl rfl (by omega) (fun c10 => ?_) (fun c10 => absurd c10 (by omega))
    refine Ex_aload_n dX12_cost_21 rfl rfl ?_
    refine Ex_getf dX12_cost_22 rfl (ma0 M1_) rfl rfl rfl ?_
    refine Ex_iload_n dX12_cost_25 rfl rfl ?_
    refine Ex_iald12 (c := a) dX12_cost_26 rfl (ma7 M1_) (by omega) (by omega) ?_
    rw [k1]
    refine Ex_aload_n dX12_cost_27 rfl rfl ?_
    refine Ex_getf dX12_cost_28 rfl (ma0 M1_) rfl rfl rfl ?_
    refine Ex_iload_n dX12_cost_31 rfl rfl ?_
    refine Ex_iald12 (c := a) dX12_cost_32 rfl (ma8 M1_) (by omega) (by omega) ?_
    rw [k2]
    refine Ex_stat 0 dX12_cost_33 rfl rfl (Or.inl rfl) rfl rfl rfl rfl rfl rfl (Ex_post (x12_costOf k3 k4) ?_)
    rintro _ _ ⟨rfl, e0⟩
    obtain rfl := Eq.symm e0
    refine Ex_iret dX12_cost_36 rfl rfl ?_
    exact ⟨rfl, ⟨_, ⟨_, _, _, M1_, hn, h6, h23, fun _ _ => rfl⟩, V, h16⟩, f1_⟩
  · have gw := why_r (hw := hw) (a := a)
    have ea : an_cost hw ck cf a = why hw a := if_neg q
    rw [ea]
    refine Ex_aload_n dX12_cost_0 rfl rfl ?_
    refine Ex_iconst dX12_cost_1 rfl ?_
    refine Ex_put12 (k0 := 13) (v := 0) dX12_cost_2 rfl (ma0 M) rfl rfl rfl rfl rfl (by omega) rfl ?_
    refine mg0 M ?_
    intro h1_ M1_ f1_
    refine Ex_aload_n dX12_cost_5 rfl rfl ?_
    refine Ex_iload_n dX12_cost_6 rfl rfl ?_
    refine Ex_inv 2 dX12_cost_7 rfl rfl (Or.inl rfl) rfl rfl rfl rfl (ma0 M1_) rfl rfl rfl (Ex_post (x12_wK M1_ V (by omega)) ?_)
    rintro _ _ ⟨rfl, e0⟩
    obtain rfl := Eq.symm e0
    rw [if_neg q]
    refine Ex_if_ge (t := 21) dX12_cost_10 rfl rfl (by omega) (fun c10 => absurd c10 (by omega)) (fun c10 => ?_)
    refine Ex_aload_n dX12_cost_13 rfl rfl ?_
    refine Ex_iload_n dX12_cost_14 rfl rfl ?_
    refine Ex_inv 2 dX12_cost_15 rfl rfl (Or.inl rfl) rfl rfl rfl rfl (ma0 M1_) rfl rfl rfl (Ex_post (x12_wK M1_ V (by omega)) ?_)
    rintro _ _ ⟨rfl, e0⟩
    obtain rfl := Eq.symm e0
    rw [if_neg q]
    refine Ex_goto (t := 36) dX12_cost_18 rfl ?_
    refine Ex_iret dX12_cost_36 rfl rfl ?_
    exact ⟨rfl, ⟨_, ⟨_, _, _, M1_, hn, h6, h23, fun _ _ => rfl⟩, V, h16⟩, f1_⟩
theorem x12_keep_no {E : am_E} {d : Nat} {h : Hp} {m n : Nat} {mm hi : Int} {K F T S C : Nat → Int} {σ : Nat → Nat → Int} {hw ck cf rs : Nat → Int} {rx : Nat → List Int} {a b k f : Int}  (I : MI h m (n, mm, K, F, T, S, C) hi σ) (hn6 : n ≤ 6) (hg : Rng n T S C) (hK : ∀ i, i < n → (0 ≤ K i ∧ K i ≤ 7) ∧ (0 ≤ F i ∧ F i ≤ 9)) (hB : E.2 ≤ m) (V : Sv σ hw ck cf rs rx) (ha : (-2147483648 ≤ a ∧ a ≤ 2147483647)) (hb : (-2147483648 ≤ b ∧ b ≤ 2147483647)) (hk : (-2147483648 ≤ k ∧ k ≤ 2147483647)) (hf : (-2147483648 ≤ f ∧ f ≤ 2147483647)) (q : ¬ ok_keep a b k f)  : Ex E (d + 1) mX12_keep 0 [.ref m, .int (i32 a), .int (i32 b), .int (i32 k), .int (i32 f)] [] h (fun r1 h1 => r1 = some (.int (i32 (-1))) ∧ (∃ σ2, MI h1 m (n, mm, K, F, T, S, C) hi σ2 ∧ Sv σ2 hw ck cf rs rx ∧ σ2 16 = σ 16) ∧ Fr h h1 m (m + 23)) := by
  obtain ⟨g, ρ, kp, M, hn, h6, h23, hσ⟩ := I
  have M : MAt h m g K F T S C ρ kp := M
  have hn : g 0 = (n : Int) := hn
  have h6 : g 6 = mm := h6
  have V : Sv ρ hw ck cf rs rx := V.cg hσ
  have h16 : ρ 16 = σ 16 := hσ 16 (Or.inr rfl)
  clear hσ
  have hσ : ∀ j, (6 ≤ j ∧ j ≤ 11) ∨ j = 16 → ρ j = ρ j := fun _ _ => rfl
  unfold ok_keep at q
  refine Ex_aload_n dX12_keep_0 rfl rfl ?_
  refine Ex_iconst dX12_keep_1 rfl ?_
  refine Ex_put12 (k0 := 13) (v := 0) dX12_keep_2 rfl (ma0 M) rfl rfl rfl rfl rfl (by omega) rfl ?_
  refine mg0 M ?_
  intro h1_ M1_ f1_
  refine Ex_iload_n dX12_keep_5 rfl rfl ?_
  refine Ex_i2l dX12_keep_6 rfl (by omega) ?_
  refine Ex_lconst (z := 0) dX12_keep_7 rfl (by decide) ?_
  refine Ex_ldc2 (z := 7) dX12_keep_8 rfl rfl ?_
  refine Ex_stat 0 dX12_keep_11 rfl rfl (Or.inl rfl) rfl rfl rfl rfl rfl rfl (Ex_post (x12_in (by omega) (by omega) (by omega)) ?_)
  rintro _ _ ⟨rfl, e0⟩
  obtain rfl := Eq.symm e0
  refine Ex_if_eq (t := 57) dX12_keep_14 rfl rfl (by omega) (fun c14 => ?_) (fun c14 => ?_)
  · refine Ex_iconst dX12_keep_57 rfl ?_
    refine Ex_iret dX12_keep_58 rfl rfl ?_
    exact ⟨rfl, ⟨_, ⟨_, _, _, M1_, hn, h6, h23, fun _ _ => rfl⟩, V, h16⟩, f1_⟩
  · refine Ex_iload_n dX12_keep_17 rfl rfl ?_
    refine Ex_i2l dX12_keep_18 rfl (by omega) ?_
    refine Ex_lconst (z := 0) dX12_keep_19 rfl (by decide) ?_
    refine Ex_lconst (z := 1) dX12_keep_20 rfl (by decide) ?_
    refine Ex_stat 0 dX12_keep_21 rfl rfl (Or.inl rfl) rfl rfl rfl rfl rfl rfl (Ex_post (x12_in (by omega) (by omega) (by omega)) ?_)
    rintro _ _ ⟨rfl, e0⟩
    obtain rfl := Eq.symm e0
    refine Ex_if_eq (t := 57) dX12_keep_24 rfl rfl (by omega) (fun c24 => ?_) (fun c24 => ?_)
    · refine Ex_iconst dX12_keep_57 rfl ?_
      refine Ex_iret dX12_keep_58 rfl rfl ?_
      exact ⟨rfl, ⟨_, ⟨_, _, _, M1_, hn, h6, h23, fun _ _ => rfl⟩, V, h16⟩, f1_⟩
    · refine Ex_iload_n dX12_keep_27 rfl rfl ?_
      refine Ex_iconst dX12_keep_28 rfl ?_
      refine Ex_icmp_ne (t := 59) dX12_keep_29 rfl rfl (by omega) (fun c29 => ?_) (fun c29 => ?_)
      · exfalso; omega
      · refine Ex_iload_n dX12_keep_32 rfl rfl ?_
        refine Ex_i2l dX12_keep_33 rfl (by omega) ?_
        refine Ex_lconst (z := 0) dX12_keep_34 rfl (by decide) ?_
        refine Ex_ldc2 (z := 7) dX12_keep_35 rfl rfl ?_
        refine Ex_stat 0 dX12_keep_38 rfl rfl (Or.inl rfl) rfl rfl rfl rfl rfl rfl (Ex_post (x12_in (by omega) (by omega) (by omega)) ?_)
        rintro _ _ ⟨rfl, e0⟩
        obtain rfl := Eq.symm e0
        refine Ex_if_eq (t := 57) dX12_keep_41 rfl rfl (by omega) (fun c41 => ?_) (fun c41 => ?_)
        · refine Ex_iconst dX12_keep_57 rfl ?_
          refine Ex_iret dX12_keep_58 rfl rfl ?_
          exact ⟨rfl, ⟨_, ⟨_, _, _, M1_, hn, h6, h23, fun _ _ => rfl⟩, V, h16⟩, f1_⟩
        · refine Ex_iload dX12_keep_44 rfl rfl ?_
          refine Ex_i2l dX12_keep_46 rfl (by omega) ?_
          refine Ex_lconst (z := 0) dX12_keep_47 rfl (by decide) ?_
          refine Ex_ldc2 (z := 9) dX12_keep_48 rfl rfl ?_
          refine Ex_stat 0 dX12_keep_51 rfl rfl (Or.inl rfl) rfl rfl rfl rfl rfl rfl (Ex_post (x12_in (by omega) (by omega) (by omega)) ?_)
          rintro _ _ ⟨rfl, e0⟩
          obtain rfl := Eq.symm e0
          refine Ex_if_ne (t := 59) dX12_keep_54 rfl rfl (by omega) (fun c54 => ?_) (fun c54 => ?_)
          · exfalso; omega
          · refine Ex_iconst dX12_keep_57 rfl ?_
            refine Ex_iret dX12_keep_58 rfl rfl ?_
            exact ⟨rfl, ⟨_, ⟨_, _, _, M1_, hn, h6, h23, fun _ _ => rfl⟩, V, h16⟩, f1_⟩
theorem x12_keep_0 {E : am_E} {d : Nat} {h : Hp} {m n : Nat} {mm hi : Int} {K F T S C : Nat → Int} {σ : Nat → Nat → Int} {hw ck cf rs : Nat → Int} {rx : Nat → List Int} {a k f : Int}  (I : MI h m (n, mm, K, F, T, S, C) hi σ) (hn6 : n ≤ 6) (hg : Rng n T S C) (hK : ∀ i, i < n → (0 ≤ K i ∧ K i ≤ 7) ∧ (0 ≤ F i ∧ F i ≤ 9)) (hB : E.2 ≤ m) (V : Sv σ hw ck cf rs rx) (ha : (-2147483648 ≤ a ∧ a ≤ 2147483647)) (hk : (-2147483648 ≤ k ∧ k ≤ 2147483647)) (hf : (-2147483648 ≤ f ∧ f ≤ 2147483647)) (q : ok_keep a 0 k f)  : Ex E (d + 1) mX12_keep 0 [.ref m, .int (i32 a), .int (i32 0), .int (i32 k), .int (i32 f)] [] h (fun r1 h1 => r1 = some (.int (i32 (0))) ∧ (∃ σ2, MI h1 m (n, mm, K, F, T, S, C) hi σ2 ∧ Sv σ2 (fu hw a.toNat 0) (fu ck a.toNat 0) (fu cf a.toNat 0) rs rx ∧ σ2 16 = σ 16) ∧ Fr h h1 m (m + 23)) := by
  obtain ⟨g, ρ, kp, M, hn, h6, h23, hσ⟩ := I
  have M : MAt h m g K F T S C ρ kp := M
  have hn : g 0 = (n : Int) := hn
  have h6 : g 6 = mm := h6
  have V : Sv ρ hw ck cf rs rx := V.cg hσ
  have h16 : ρ 16 = σ 16 := hσ 16 (Or.inr rfl)
  clear hσ
  have hσ : ∀ j, (6 ≤ j ∧ j ≤ 11) ∨ j = 16 → ρ j = ρ j := fun _ _ => rfl
  obtain ⟨⟨q0, q1⟩, q2⟩ := q
  obtain ⟨a, rfl⟩ := Int.eq_ofNat_of_zero_le q0.1
  refine Ex_aload_n dX12_keep_0 rfl rfl ?_
  refine Ex_iconst dX12_keep_1 rfl ?_
  refine Ex_put12 (k0 := 13) (v := 0) dX12_keep_2 rfl (ma0 M) rfl rfl rfl rfl rfl (by omega) rfl ?_
  refine mg0 M ?_
  intro h1_ M1_ f1_
  refine Ex_iload_n dX12_keep_5 rfl rfl ?_
  refine Ex_i2l dX12_keep_6 rfl (by omega) ?_
  refine Ex_lconst (z := 0) dX12_keep_7 rfl (by decide) ?_
  refine Ex_ldc2 (z := 7) dX12_keep_8 rfl rfl ?_
  refine Ex_stat 0 dX12_keep_11 rfl rfl (Or.inl rfl) rfl rfl rfl rfl rfl rfl (Ex_post (x12_in (by omega) (by omega) (by omega)) ?_)
  rintro _ _ ⟨rfl, e0⟩
  obtain rfl := Eq.symm e0
  refine Ex_if_eq (t := 57) dX12_keep_14 rfl rfl (by omega) (fun c14 => absurd c14 (by omega)) (fun c14 => ?_)
  refine Ex_iload_n dX12_keep_17 rfl rfl ?_
  refine Ex_i2l dX12_keep_18 rfl (by omega) ?_
  refine Ex_lconst (z := 0) dX12_keep_19 rfl (by decide) ?_
  refine Ex_lconst (z := 1) dX12_keep_20 rfl (by decide) ?_
  refine Ex_stat 0 dX12_keep_21 rfl rfl (Or.inl rfl) rfl rfl rfl rfl rfl rfl (Ex_post (x12_in (by omega) (by omega) (by omega)) ?_)
  rintro _ _ ⟨rfl, e0⟩
  obtain rfl := Eq.symm e0
  refine Ex_if_eq (t := 57) dX12_keep_24 rfl rfl (by omega) (fun c24 => absurd c24 (by omega)) (fun c24 => ?_)
  refine Ex_iload_n dX12_keep_27 rfl rfl ?_
  refine Ex_iconst dX12_keep_28 rfl ?_
  refine Ex_icmp_ne (t := 59) dX12_keep_29 rfl rfl (by omega) (fun c29 => ?_) (fun c29 => absurd c29 (by omega))
  refine Ex_aload_n dX12_keep_59 rfl rfl ?_
  refine Ex_getf dX12_keep_60 rfl (ma0 M1_) rfl rfl rfl ?_
  refine Ex_iload_n dX12_keep_63 rfl rfl ?_
  refine Ex_iload_n dX12_keep_64 rfl rfl ?_
  refine Ex_iast12 (c := a) dX12_keep_65 rfl (ma6 M1_) (by omega) (by omega) (by omega) ?_
  refine mg6 M1_ ?_
  intro h2_ M2_ f2_
  refine Ex_aload_n dX12_keep_66 rfl rfl ?_
  refine Ex_getf dX12_keep_67 rfl (ma0 M2_) rfl rfl rfl ?_
  refine Ex_iload_n dX12_keep_70 rfl rfl ?_
  refine Ex_iload_n dX12_keep_71 rfl rfl ?_
  refine Ex_iconst dX12_keep_72 rfl ?_
  refine Ex_icmp_ne (t := 80) dX12_keep_73 rfl rfl (by omega) (fun c73 => ?_) (fun c73 => absurd c73 (by omega))
  refine Ex_iconst dX12_keep_80 rfl ?_
  refine Ex_iast12 (c := a) dX12_keep_81 rfl (ma7 M2_) (by omega) (by omega) (by omega) ?_
  refine mg7 M2_ ?_
  intro h3_ M3_ f3_
  refine Ex_aload_n dX12_keep_82 rfl rfl ?_
  refine Ex_getf dX12_keep_83 rfl (ma0 M3_) rfl rfl rfl ?_
  refine Ex_iload_n dX12_keep_86 rfl rfl ?_
  refine Ex_iload_n dX12_keep_87 rfl rfl ?_
  refine Ex_iconst dX12_keep_88 rfl ?_
  refine Ex_icmp_ne (t := 97) dX12_keep_89 rfl rfl (by omega) (fun c89 => ?_) (fun c89 => absurd c89 (by omega))
  refine Ex_iconst dX12_keep_97 rfl ?_
  refine Ex_iast12 (c := a) dX12_keep_98 rfl (ma8 M3_) (by omega) (by omega) (by omega) ?_
  refine mg8 M3_ ?_
  intro h4_ M4_ f4_
  refine Ex_iconst dX12_keep_99 rfl ?_
  refine Ex_iret dX12_keep_100 rfl rfl ?_
  refine ⟨rfl, ⟨_, ⟨_, _, _, M4_, hn, h6, h23, fun _ _ => rfl⟩, ?_, h16⟩, (f1_.trans (f2_.trans (f3_.trans f4_)))⟩
  exact V.keep (d := a) (Or.inl rfl) (fun z => by cases z) rfl rfl rfl rfl rfl rfl
theorem x12_keep_1 {E : am_E} {d : Nat} {h : Hp} {m n : Nat} {mm hi : Int} {K F T S C : Nat → Int} {σ : Nat → Nat → Int} {hw ck cf rs : Nat → Int} {rx : Nat → List Int} {a k f : Int}  (I : MI h m (n, mm, K, F, T, S, C) hi σ) (hn6 : n ≤ 6) (hg : Rng n T S C) (hK : ∀ i, i < n → (0 ≤ K i ∧ K i ≤ 7) ∧ (0 ≤ F i ∧ F i ≤ 9)) (hB : E.2 ≤ m) (V : Sv σ hw ck cf rs rx) (ha : (-2147483648 ≤ a ∧ a ≤ 2147483647)) (hk : (-2147483648 ≤ k ∧ k ≤ 2147483647)) (hf : (-2147483648 ≤ f ∧ f ≤ 2147483647)) (q : ok_keep a 1 k f)  : Ex E (d + 1) mX12_keep 0 [.ref m, .int (i32 a), .int (i32 1), .int (i32 k), .int (i32 f)] [] h (fun r1 h1 => r1 = some (.int (i32 (0))) ∧ (∃ σ2, MI h1 m (n, mm, K, F, T, S, C) hi σ2 ∧ Sv σ2 (fu hw a.toNat 1) (fu ck a.toNat k) (fu cf a.toNat f) rs rx ∧ σ2 16 = σ 16) ∧ Fr h h1 m (m + 23)) := by
  obtain ⟨g, ρ, kp, M, hn, h6, h23, hσ⟩ := I
  have M : MAt h m g K F T S C ρ kp := M
  have hn : g 0 = (n : Int) := hn
  have h6 : g 6 = mm := h6
  have V : Sv ρ hw ck cf rs rx := V.cg hσ
  have h16 : ρ 16 = σ 16 := hσ 16 (Or.inr rfl)
  clear hσ
  have hσ : ∀ j, (6 ≤ j ∧ j ≤ 11) ∨ j = 16 → ρ j = ρ j := fun _ _ => rfl
  obtain ⟨⟨q0, q1⟩, q2⟩ := q
  obtain ⟨a, rfl⟩ := Int.eq_ofNat_of_zero_le q0.1
  have q3 := q2 rfl
  refine Ex_aload_n dX12_keep_0 rfl rfl ?_
  refine Ex_iconst dX12_keep_1 rfl ?_
  refine Ex_put12 (k0 := 13) (v := 0) dX12_keep_2 rfl (ma0 M) rfl rfl rfl rfl rfl (by omega) rfl ?_
  refine mg0 M ?_
  intro h1_ M1_ f1_
  refine Ex_iload_n dX12_keep_5 rfl rfl ?_
  refine Ex_i2l dX12_keep_6 rfl (by omega) ?_
  refine Ex_lconst (z := 0) dX12_keep_7 rfl (by decide) ?_
  refine Ex_ldc2 (z := 7) dX12_keep_8 rfl rfl ?_
  refine Ex_stat 0 dX12_keep_11 rfl rfl (Or.inl rfl) rfl rfl rfl rfl rfl rfl (Ex_post (x12_in (by omega) (by omega) (by omega)) ?_)
  rintro _ _ ⟨rfl, e0⟩
  obtain rfl := Eq.symm e0
  refine Ex_if_eq (t := 57) dX12_keep_14 rfl rfl (by omega) (fun c14 => absurd c14 (by omega)) (fun c14 => ?_)
  refine Ex_iload_n dX12_keep_17 rfl rfl ?_
  refine Ex_i2l dX12_keep_18 rfl (by omega) ?_
  refine Ex_lconst (z := 0) dX12_keep_19 rfl (by decide) ?_
  refine Ex_lconst (z := 1) dX12_keep_20 rfl (by decide) ?_
  refine Ex_stat 0 dX12_keep_21 rfl rfl (Or.inl rfl) rfl rfl rfl rfl rfl rfl (Ex_post (x12_in (by omega) (by omega) (by omega)) ?_)
  rintro _ _ ⟨rfl, e0⟩
  obtain rfl := Eq.symm e0
  refine Ex_if_eq (t := 57) dX12_keep_24 rfl rfl (by omega) (fun c24 => absurd c24 (by omega)) (fun c24 => ?_)
  refine Ex_iload_n dX12_keep_27 rfl rfl ?_
  refine Ex_iconst dX12_keep_28 rfl ?_
  refine Ex_icmp_ne (t := 59) dX12_keep_29 rfl rfl (by omega) (fun c29 => absurd c29 (by omega)) (fun c29 => ?_)
  refine Ex_iload_n dX12_keep_32 rfl rfl ?_
  refine Ex_i2l dX12_keep_33 rfl (by omega) ?_
  refine Ex_lconst (z := 0) dX12_keep_34 rfl (by decide) ?_
  refine Ex_ldc2 (z := 7) dX12_keep_35 rfl rfl ?_
  refine Ex_stat 0 dX12_keep_38 rfl rfl (Or.inl rfl) rfl rfl rfl rfl rfl rfl (Ex_post (x12_in (by omega) (by omega) (by omega)) ?_)
  rintro _ _ ⟨rfl, e0⟩
  obtain rfl := Eq.symm e0
  refine Ex_if_eq (t := 57) dX12_keep_41 rfl rfl (by omega) (fun c41 => absurd c41 (by omega)) (fun c41 => ?_)
  refine Ex_iload dX12_keep_44 rfl rfl ?_
  refine Ex_i2l dX12_keep_46 rfl (by omega) ?_
  refine Ex_lconst (z := 0) dX12_keep_47 rfl (by decide) ?_
  refine Ex_ldc2 (z := 9) dX12_keep_48 rfl rfl ?_
  refine Ex_stat 0 dX12_keep_51 rfl rfl (Or.inl rfl) rfl rfl rfl rfl rfl rfl (Ex_post (x12_in (by omega) (by omega) (by omega)) ?_)
  rintro _ _ ⟨rfl, e0⟩
  obtain rfl := Eq.symm e0
  refine Ex_if_ne (t := 59) dX12_keep_54 rfl rfl (by omega) (fun c54 => ?_) (fun c54 => absurd c54 (by omega))
  refine Ex_aload_n dX12_keep_59 rfl rfl ?_
  refine Ex_getf dX12_keep_60 rfl (ma0 M1_) rfl rfl rfl ?_
  refine Ex_iload_n dX12_keep_63 rfl rfl ?_
  refine Ex_iload_n dX12_keep_64 rfl rfl ?_
  refine Ex_iast12 (c := a) dX12_keep_65 rfl (ma6 M1_) (by omega) (by omega) (by omega) ?_
  refine mg6 M1_ ?_
  intro h2_ M2_ f2_
  refine Ex_aload_n dX12_keep_66 rfl rfl ?_
  refine Ex_getf dX12_keep_67 rfl (ma0 M2_) rfl rfl rfl ?_
  refine Ex_iload_n dX12_keep_70 rfl rfl ?_
  refine Ex_iload_n dX12_keep_71 rfl rfl ?_
  refine Ex_iconst dX12_keep_72 rfl ?_
  refine Ex_icmp_ne (t := 80) dX12_keep_73 rfl rfl (by omega) (fun c73 => absurd c73 (by omega)) (fun c73 => ?_)
  refine Ex_iload_n dX12_keep_76 rfl rfl ?_
  refine Ex_goto (t := 81) dX12_keep_77 rfl ?_
  refine Ex_iast12 (c := a) dX12_keep_81 rfl (ma7 M2_) (by omega) (by omega) (by omega) ?_
  refine mg7 M2_ ?_
  intro h3_ M3_ f3_
  refine Ex_aload_n dX12_keep_82 rfl rfl ?_
  refine Ex_getf dX12_keep_83 rfl (ma0 M3_) rfl rfl rfl ?_
  refine Ex_iload_n dX12_keep_86 rfl rfl ?_
  refine Ex_iload_n dX12_keep_87 rfl rfl ?_
  refine Ex_iconst dX12_keep_88 rfl ?_
  refine Ex_icmp_ne (t := 97) dX12_keep_89 rfl rfl (by omega) (fun c89 => absurd c89 (by omega)) (fun c89 => ?_)
  refine Ex_iload dX12_keep_92 rfl rfl ?_
  refine Ex_goto (t := 98) dX12_keep_94 rfl ?_
  refine Ex_iast12 (c := a) dX12_keep_98 rfl (ma8 M3_) (by omega) (by omega) (by omega) ?_
  refine mg8 M3_ ?_
  intro h4_ M4_ f4_
  refine Ex_iconst dX12_keep_99 rfl ?_
  refine Ex_iret dX12_keep_100 rfl rfl ?_
  refine ⟨rfl, ⟨_, ⟨_, _, _, M4_, hn, h6, h23, fun _ _ => rfl⟩, ?_, h16⟩, (f1_.trans (f2_.trans (f3_.trans f4_)))⟩
  exact V.keep (d := a) (Or.inr rfl) (fun _ => q3) rfl rfl rfl rfl rfl rfl
theorem x12_row_no {E : am_E} {d : Nat} {h : Hp} {m n : Nat} {mm hi : Int} {K F T S C : Nat → Int} {σ : Nat → Nat → Int} {hw ck cf rs : Nat → Int} {rx : Nat → List Int} {a s l : Int}  (I : MI h m (n, mm, K, F, T, S, C) hi σ) (hn6 : n ≤ 6) (hg : Rng n T S C) (hK : ∀ i, i < n → (0 ≤ K i ∧ K i ≤ 7) ∧ (0 ≤ F i ∧ F i ≤ 9)) (hB : E.2 ≤ m) (V : Sv σ hw ck cf rs rx) (ha : (-2147483648 ≤ a ∧ a ≤ 2147483647)) (hs : (-2147483648 ≤ s ∧ s ≤ 2147483647)) (hl : (-2147483648 ≤ l ∧ l ≤ 2147483647)) (q : ¬ ok_row a s l)  : Ex E (d + 1) mX12_row 0 [.ref m, .int (i32 a), .int (i32 s), .int (i32 l), .retAddr 0] [] h (fun r1 h1 => r1 = some (.int (i32 (-1))) ∧ (∃ σ2, MI h1 m (n, mm, K, F, T, S, C) hi σ2 ∧ Sv σ2 hw ck cf rs rx ∧ σ2 16 = σ 16) ∧ Fr h h1 m (m + 23)) := by
  obtain ⟨g, ρ, kp, M, hn, h6, h23, hσ⟩ := I
  have M : MAt h m g K F T S C ρ kp := M
  have hn : g 0 = (n : Int) := hn
  have h6 : g 6 = mm := h6
  have V : Sv ρ hw ck cf rs rx := V.cg hσ
  have h16 : ρ 16 = σ 16 := hσ 16 (Or.inr rfl)
  clear hσ
  have hσ : ∀ j, (6 ≤ j ∧ j ≤ 11) ∨ j = 16 → ρ j = ρ j := fun _ _ => rfl
  unfold ok_row at q
  refine Ex_aload_n dX12_row_0 rfl rfl ?_
  refine Ex_iconst dX12_row_1 rfl ?_
  refine Ex_put12 (k0 := 13) (v := 0) dX12_row_2 rfl (ma0 M) rfl rfl rfl rfl rfl (by omega) rfl ?_
  refine mg0 M ?_
  intro h1_ M1_ f1_
  refine Ex_iload_n dX12_row_5 rfl rfl ?_
  refine Ex_i2l dX12_row_6 rfl (by omega) ?_
  refine Ex_lconst (z := 0) dX12_row_7 rfl (by decide) ?_
  refine Ex_ldc2 (z := 7) dX12_row_8 rfl rfl ?_
  refine Ex_stat 0 dX12_row_11 rfl rfl (Or.inl rfl) rfl rfl rfl rfl rfl rfl (Ex_post (x12_in (by omega) (by omega) (by omega)) ?_)
  rintro _ _ ⟨rfl, e0⟩
  obtain rfl := Eq.symm e0
  refine Ex_if_eq (t := 35) dX12_row_14 rfl rfl (by omega) (fun c14 => ?_) (fun c14 => ?_)
  · refine Ex_iconst dX12_row_35 rfl ?_
    refine Ex_iret dX12_row_36 rfl rfl ?_
    exact ⟨rfl, ⟨_, ⟨_, _, _, M1_, hn, h6, h23, fun _ _ => rfl⟩, V, h16⟩, f1_⟩
  · refine Ex_iload_n dX12_row_17 rfl rfl ?_
    refine Ex_i2l dX12_row_18 rfl (by omega) ?_
    refine Ex_lconst (z := 0) dX12_row_19 rfl (by decide) ?_
    refine Ex_ldc2 (z := 2) dX12_row_20 rfl rfl ?_
    refine Ex_stat 0 dX12_row_23 rfl rfl (Or.inl rfl) rfl rfl rfl rfl rfl rfl (Ex_post (x12_in (by omega) (by omega) (by omega)) ?_)
    rintro _ _ ⟨rfl, e0⟩
    obtain rfl := Eq.symm e0
    refine Ex_if_eq (t := 35) dX12_row_26 rfl rfl (by omega) (fun c26 => ?_) (fun c26 => ?_)
    · refine Ex_iconst dX12_row_35 rfl ?_
      refine Ex_iret dX12_row_36 rfl rfl ?_
      exact ⟨rfl, ⟨_, ⟨_, _, _, M1_, hn, h6, h23, fun _ _ => rfl⟩, V, h16⟩, f1_⟩
    · refine Ex_iload_n dX12_row_29 rfl rfl ?_
      refine Ex_bipush dX12_row_30 rfl (by decide) ?_
      refine Ex_icmp_le (t := 37) dX12_row_32 rfl rfl (by omega) (fun c32 => ?_) (fun c32 => ?_)
      · exfalso; omega
      · refine Ex_iconst dX12_row_35 rfl ?_
        refine Ex_iret dX12_row_36 rfl rfl ?_
        exact ⟨rfl, ⟨_, ⟨_, _, _, M1_, hn, h6, h23, fun _ _ => rfl⟩, V, h16⟩, f1_⟩
theorem x12_row_neg {E : am_E} {d : Nat} {h : Hp} {m n : Nat} {mm hi : Int} {K F T S C : Nat → Int} {σ : Nat → Nat → Int} {hw ck cf rs : Nat → Int} {rx : Nat → List Int} {a s l : Int}  (I : MI h m (n, mm, K, F, T, S, C) hi σ) (hn6 : n ≤ 6) (hg : Rng n T S C) (hK : ∀ i, i < n → (0 ≤ K i ∧ K i ≤ 7) ∧ (0 ≤ F i ∧ F i ≤ 9)) (hB : E.2 ≤ m) (V : Sv σ hw ck cf rs rx) (ha : (-2147483648 ≤ a ∧ a ≤ 2147483647)) (hs : (-2147483648 ≤ s ∧ s ≤ 2147483647)) (hl : (-2147483648 ≤ l ∧ l ≤ 2147483647)) (q : ok_row a s l) (hl0 : l < 0)  : Ex E (d + 1) mX12_row 0 [.ref m, .int (i32 a), .int (i32 s), .int (i32 l), .retAddr 0] [] h (fun r1 h1 => r1 = some (.int (i32 (-14))) ∧ (∃ σ2, MI h1 m (n, mm, K, F, T, S, C) hi σ2 ∧ Sv σ2 hw ck cf rs rx ∧ σ2 16 = σ 16) ∧ Fr h h1 m (m + 23)) := by
  obtain ⟨g, ρ, kp, M, hn, h6, h23, hσ⟩ := I
  have M : MAt h m g K F T S C ρ kp := M
  have hn : g 0 = (n : Int) := hn
  have h6 : g 6 = mm := h6
  have V : Sv ρ hw ck cf rs rx := V.cg hσ
  have h16 : ρ 16 = σ 16 := hσ 16 (Or.inr rfl)
  clear hσ
  have hσ : ∀ j, (6 ≤ j ∧ j ≤ 11) ∨ j = 16 → ρ j = ρ j := fun _ _ => rfl
  obtain ⟨⟨q0, q1⟩, q2⟩ := q
  refine Ex_aload_n dX12_row_0 rfl rfl ?_
  refine Ex_iconst dX12_row_1 rfl ?_
  refine Ex_put12 (k0 := 13) (v := 0) dX12_row_2 rfl (ma0 M) rfl rfl rfl rfl rfl (by omega) rfl ?_
  refine mg0 M ?_
  intro h1_ M1_ f1_
  refine Ex_iload_n dX12_row_5 rfl rfl ?_
  refine Ex_i2l dX12_row_6 rfl (by omega) ?_
  refine Ex_lconst (z := 0) dX12_row_7 rfl (by decide) ?_
  refine Ex_ldc2 (z := 7) dX12_row_8 rfl rfl ?_
  refine Ex_stat 0 dX12_row_11 rfl rfl (Or.inl rfl) rfl rfl rfl rfl rfl rfl (Ex_post (x12_in (by omega) (by omega) (by omega)) ?_)
  rintro _ _ ⟨rfl, e0⟩
  obtain rfl := Eq.symm e0
  refine Ex_if_eq (t := 35) dX12_row_14 rfl rfl (by omega) (fun c14 => absurd c14 (by omega)) (fun c14 => ?_)
  refine Ex_iload_n dX12_row_17 rfl rfl ?_
  refine Ex_i2l dX12_row_18 rfl (by omega) ?_
  refine Ex_lconst (z := 0) dX12_row_19 rfl (by decide) ?_
  refine Ex_ldc2 (z := 2) dX12_row_20 rfl rfl ?_
  refine Ex_stat 0 dX12_row_23 rfl rfl (Or.inl rfl) rfl rfl rfl rfl rfl rfl (Ex_post (x12_in (by omega) (by omega) (by omega)) ?_)
  rintro _ _ ⟨rfl, e0⟩
  obtain rfl := Eq.symm e0
  refine Ex_if_eq (t := 35) dX12_row_26 rfl rfl (by omega) (fun c26 => absurd c26 (by omega)) (fun c26 => ?_)
  refine Ex_iload_n dX12_row_29 rfl rfl ?_
  refine Ex_bipush dX12_row_30 rfl (by decide) ?_
  refine Ex_icmp_le (t := 37) dX12_row_32 rfl rfl (by omega) (fun c32 => ?_) (fun c32 => absurd c32 (by omega))
  refine Ex_iload_n dX12_row_37 rfl rfl ?_
  refine Ex_if_ge (t := 44) dX12_row_38 rfl rfl (by omega) (fun c38 => absurd c38 (by omega)) (fun c38 => ?_)
  refine Ex_bipush dX12_row_41 rfl (by decide) ?_
  refine Ex_iret dX12_row_43 rfl rfl ?_
  exact ⟨rfl, ⟨_, ⟨_, _, _, M1_, hn, h6, h23, fun _ _ => rfl⟩, V, h16⟩, f1_⟩
theorem x12_row_l {E : am_E} {d : Nat} {m : Nat} {g K F T S C : Nat → Int} {kp : Value} {a : Nat} {s l : Int}  (ha : a < 8) (hB : E.2 ≤ m)  : ∀ (k : Nat) (c : Nat) (h : Hp) (ρ : Nat → Nat → Int), c + k = 100 → MAt h m g K F T S C ρ kp → Ex E (d + 1) mX12_row 68 [.ref m, .int (i32 (a : Int)), .int (i32 s), .int (i32 l), .int (i32 (c : Int))] [] h (fun r1 h1 => r1 = some (.int (i32 0)) ∧ (∃ f2, MAt h1 m g K F T S C (fuR ρ 11 f2) kp ∧ ∀ j, (100 * a + c ≤ j ∧ j < 100 * a + 100 → f2 j = 0) ∧ (¬ (100 * a + c ≤ j ∧ j < 100 * a + 100) → f2 j = ρ 11 j)) ∧ Fr h h1 m (m + 23)) := by
  intro k
  induction k with
  | zero =>
    intro c h ρ hk M
    refine Ex_iload dX12_row_68 rfl rfl ?_
    refine Ex_bipush dX12_row_70 rfl (by decide) ?_
    refine Ex_icmp_ge (t := 94) dX12_row_72 rfl rfl (by omega) (fun c72 => ?_) (fun c72 => absurd c72 (by omega))
    refine Ex_iconst dX12_row_94 rfl ?_
    refine Ex_iret dX12_row_95 rfl rfl ?_
    refine ⟨rfl, ⟨ρ 11, by rw [fuR_same]; exact M, fun j => ⟨fun z => by omega, fun _ => rfl⟩⟩, Fr.rf _ _ _⟩
  | succ k ih =>
    intro c h ρ hk M
    refine Ex_iload dX12_row_68 rfl rfl ?_
    refine Ex_bipush dX12_row_70 rfl (by decide) ?_
    refine Ex_icmp_ge (t := 94) dX12_row_72 rfl rfl (by omega) (fun c72 => absurd c72 (by omega)) (fun c72 => ?_)
    refine Ex_aload_n dX12_row_75 rfl rfl ?_
    refine Ex_getf dX12_row_76 rfl (ma0 M) rfl rfl rfl ?_
    refine Ex_bipush dX12_row_79 rfl (by decide) ?_
    refine Ex_iload_n dX12_row_81 rfl rfl ?_
    refine Ex_imul dX12_row_82 rfl ?_
    refine Ex_iload dX12_row_83 rfl rfl ?_
    refine Ex_iadd dX12_row_85 rfl ?_
    refine Ex_lconst (z := 0) dX12_row_86 rfl (by decide) ?_
    refine Ex_last12 (c := (100 * a + c)) dX12_row_87 rfl (ma11 M) (by omega) (by omega) (by omega) ?_
    refine mg11 M ?_
    intro h1_ M1_ f1_
    refine Ex_iinc (L2 := [_, _, _, _, _]) dX12_row_88 rfl rfl rfl ?_
    refine Ex_goto (t := 68) dX12_row_91 rfl ?_
    refine Ex_post (ih (c + 1) _ _ (by omega) M1_) ?_
    rintro r1 h1 ⟨rfl, ⟨f2, y1, y2⟩, y3⟩
    rw [fuR_fuR] at y1
    refine ⟨rfl, ⟨f2, y1, fun j => ⟨fun z => ?_, fun z => ?_⟩⟩, f1_.trans y3⟩
    · by_cases e : j = 100 * a + c
      · rw [(y2 j).2 (by omega), fuR_at, e, fu_at]
      · exact (y2 j).1 (by omega)
    · rw [(y2 j).2 (by omega), fuR_at, fu_ne (by omega)]
theorem x12_row_yes {E : am_E} {d : Nat} {h : Hp} {m n : Nat} {mm hi : Int} {K F T S C : Nat → Int} {σ : Nat → Nat → Int} {hw ck cf rs : Nat → Int} {rx : Nat → List Int} {a s l : Int}  (I : MI h m (n, mm, K, F, T, S, C) hi σ) (hn6 : n ≤ 6) (hg : Rng n T S C) (hK : ∀ i, i < n → (0 ≤ K i ∧ K i ≤ 7) ∧ (0 ≤ F i ∧ F i ≤ 9)) (hB : E.2 ≤ m) (V : Sv σ hw ck cf rs rx) (ha : (-2147483648 ≤ a ∧ a ≤ 2147483647)) (hs : (-2147483648 ≤ s ∧ s ≤ 2147483647)) (hl : (-2147483648 ≤ l ∧ l ≤ 2147483647)) (q : ok_row a s l) (hl0 : 0 ≤ l)  : Ex E (d + 1) mX12_row 0 [.ref m, .int (i32 a), .int (i32 s), .int (i32 l), .retAddr 0] [] h (fun r1 h1 => r1 = some (.int (i32 (0))) ∧ (∃ σ2, MI h1 m (n, mm, K, F, T, S, C) hi σ2 ∧ Sv σ2 (fu hw a.toNat 2) ck cf (fu rs a.toNat s) (fuL rx a.toNat (List.replicate l.toNat 0)) ∧ σ2 16 = σ 16) ∧ Fr h h1 m (m + 23)) := by
  obtain ⟨g, ρ, kp, M, hn, h6, h23, hσ⟩ := I
  have M : MAt h m g K F T S C ρ kp := M
  have hn : g 0 = (n : Int) := hn
  have h6 : g 6 = mm := h6
  have V : Sv ρ hw ck cf rs rx := V.cg hσ
  have h16 : ρ 16 = σ 16 := hσ 16 (Or.inr rfl)
  clear hσ
  have hσ : ∀ j, (6 ≤ j ∧ j ≤ 11) ∨ j = 16 → ρ j = ρ j := fun _ _ => rfl
  obtain ⟨⟨q0, q1⟩, q2⟩ := q
  obtain ⟨a, rfl⟩ := Int.eq_ofNat_of_zero_le q0.1
  obtain ⟨l, rfl⟩ := Int.eq_ofNat_of_zero_le hl0
  refine Ex_aload_n dX12_row_0 rfl rfl ?_
  refine Ex_iconst dX12_row_1 rfl ?_
  refine Ex_put12 (k0 := 13) (v := 0) dX12_row_2 rfl (ma0 M) rfl rfl rfl rfl rfl (by omega) rfl ?_
  refine mg0 M ?_
  intro h1_ M1_ f1_
  refine Ex_iload_n dX12_row_5 rfl rfl ?_
  refine Ex_i2l dX12_row_6 rfl (by omega) ?_
  refine Ex_lconst (z := 0) dX12_row_7 rfl (by decide) ?_
  refine Ex_ldc2 (z := 7) dX12_row_8 rfl rfl ?_
  refine Ex_stat 0 dX12_row_11 rfl rfl (Or.inl rfl) rfl rfl rfl rfl rfl rfl (Ex_post (x12_in (by omega) (by omega) (by omega)) ?_)
  rintro _ _ ⟨rfl, e0⟩
  obtain rfl := Eq.symm e0
  refine Ex_if_eq (t := 35) dX12_row_14 rfl rfl (by omega) (fun c14 => absurd c14 (by omega)) (fun c14 => ?_)
  refine Ex_iload_n dX12_row_17 rfl rfl ?_
  refine Ex_i2l dX12_row_18 rfl (by omega) ?_
  refine Ex_lconst (z := 0) dX12_row_19 rfl (by decide) ?_
  refine Ex_ldc2 (z := 2) dX12_row_20 rfl rfl ?_
  refine Ex_stat 0 dX12_row_23 rfl rfl (Or.inl rfl) rfl rfl rfl rfl rfl rfl (Ex_post (x12_in (by omega) (by omega) (by omega)) ?_)
  rintro _ _ ⟨rfl, e0⟩
  obtain rfl := Eq.symm e0
  refine Ex_if_eq (t := 35) dX12_row_26 rfl rfl (by omega) (fun c26 => absurd c26 (by omega)) (fun c26 => ?_)
  refine Ex_iload_n dX12_row_29 rfl rfl ?_
  refine Ex_bipush dX12_row_30 rfl (by decide) ?_
  refine Ex_icmp_le (t := 37) dX12_row_32 rfl rfl (by omega) (fun c32 => ?_) (fun c32 => absurd c32 (by omega))
  refine Ex_iload_n dX12_row_37 rfl rfl ?_
  refine Ex_if_ge (t := 44) dX12_row_38 rfl rfl (by omega) (fun c38 => ?_) (fun c38 => absurd c38 (by omega))
  refine Ex_aload_n dX12_row_44 rfl rfl ?_
  refine Ex_getf dX12_row_45 rfl (ma0 M1_) rfl rfl rfl ?_
  refine Ex_iload_n dX12_row_48 rfl rfl ?_
  refine Ex_iconst dX12_row_49 rfl ?_
  refine Ex_iast12 (c := a) dX12_row_50 rfl (ma6 M1_) (by omega) (by omega) (by omega) ?_
  refine mg6 M1_ ?_
  intro h2_ M2_ f2_
  refine Ex_aload_n dX12_row_51 rfl rfl ?_
  refine Ex_getf dX12_row_52 rfl (ma0 M2_) rfl rfl rfl ?_
  refine Ex_iload_n dX12_row_55 rfl rfl ?_
  refine Ex_iload_n dX12_row_56 rfl rfl ?_
  refine Ex_iast12 (c := a) dX12_row_57 rfl (ma9 M2_) (by omega) (by omega) (by omega) ?_
  refine mg9 M2_ ?_
  intro h3_ M3_ f3_
  refine Ex_aload_n dX12_row_58 rfl rfl ?_
  refine Ex_getf dX12_row_59 rfl (ma0 M3_) rfl rfl rfl ?_
  refine Ex_iload_n dX12_row_62 rfl rfl ?_
  refine Ex_iload_n dX12_row_63 rfl rfl ?_
  refine Ex_iast12 (c := a) dX12_row_64 rfl (ma10 M3_) (by omega) (by omega) (by omega) ?_
  refine mg10 M3_ ?_
  intro h4_ M4_ f4_
  refine Ex_iconst dX12_row_65 rfl ?_
  refine Ex_istore (L2 := [_, _, _, _, _]) dX12_row_66 rfl rfl rfl ?_
  refine Ex_post (x12_row_l (a := a) (by omega) hB 100 0 _ _ (by omega) M4_) ?_
  rintro r1 h1 ⟨rfl, ⟨f2, y1, y2⟩, y3⟩
  refine ⟨rfl, ⟨_, ⟨_, _, _, y1, hn, h6, h23, fun _ _ => rfl⟩, ?_, h16⟩, (f1_.trans (f2_.trans (f3_.trans f4_))).trans y3⟩
  exact V.row (d := a) (l := l) (by omega) (by omega) q1 rfl rfl rfl rfl rfl (fun j => y2 j)
theorem nrw_0 (v : Int) : -128 ≤ (i32 v).toInt8.toInt ∧ (i32 v).toInt8.toInt ≤ 127 := by
  have h1 := Int8.le_toInt (i32 v).toInt8
  have h2 := Int8.toInt_le (i32 v).toInt8
  exact ⟨h1, h2⟩
theorem nrw_1 (v : Int) : -32768 ≤ (i32 v).toInt16.toInt ∧ (i32 v).toInt16.toInt ≤ 32767 := by
  have h1 := Int16.le_toInt (i32 v).toInt16
  have h2 := Int16.toInt_le (i32 v).toInt16
  exact ⟨h1, h2⟩
theorem x12_narrowed {E : am_E} {d : Nat} {h : Hp} {v s : Int}  (hs : 0 ≤ s ∧ s ≤ 2) (hv : (-2147483648 ≤ v ∧ v ≤ 2147483647))  : Ex E d mX12_narrowed 0 [.int (i32 v), .int (i32 s)] [] h (fun r1 h1 => r1 = some (.long (i64 (nrw s v))) ∧ h1 = h) := by
  have n0 := nrw_0 v
  have n1 := nrw_1 v
  rcases (show s = 0 ∨ s = 1 ∨ s = 2 by omega) with e | e | e
  · subst e
    have ea : nrw 0 v = (i32 v).toInt8.toInt := if_pos rfl
    rw [ea]
    refine Ex_iload_n dX12_narrowed_0 rfl rfl ?_
    refine Ex_if_ne (t := 10) dX12_narrowed_1 rfl rfl (by omega) (fun c1 => absurd c1 (by omega)) (fun c1 => ?_)
    refine Ex_iload_n dX12_narrowed_4 rfl rfl ?_
    refine Ex_i2b dX12_narrowed_5 rfl ?_
    rw [i2b_i]
    refine Ex_i2l dX12_narrowed_6 rfl (by omega) ?_
    refine Ex_goto (t := 23) dX12_narrowed_7 rfl ?_
    refine Ex_lret dX12_narrowed_23 rfl ?_
    exact ⟨rfl, rfl⟩
  · subst e
    have ea : nrw 1 v = (i32 v).toInt16.toInt := rfl
    rw [ea]
    refine Ex_iload_n dX12_narrowed_0 rfl rfl ?_
    refine Ex_if_ne (t := 10) dX12_narrowed_1 rfl rfl (by omega) (fun c1 => ?_) (fun c1 => absurd c1 (by omega))
    refine Ex_iload_n dX12_narrowed_10 rfl rfl ?_
    refine Ex_iconst dX12_narrowed_11 rfl ?_
    refine Ex_icmp_ne (t := 21) dX12_narrowed_12 rfl rfl (by omega) (fun c12 => absurd c12 (by omega)) (fun c12 => ?_)
    refine Ex_iload_n dX12_narrowed_15 rfl rfl ?_
    refine Ex_i2s dX12_narrowed_16 rfl ?_
    rw [i2s_i]
    refine Ex_i2l dX12_narrowed_17 rfl (by omega) ?_
    refine Ex_goto (t := 23) dX12_narrowed_18 rfl ?_
    refine Ex_lret dX12_narrowed_23 rfl ?_
    exact ⟨rfl, rfl⟩
  · subst e
    have ea : nrw 2 v = v := rfl
    rw [ea]
    refine Ex_iload_n dX12_narrowed_0 rfl rfl ?_
    refine Ex_if_ne (t := 10) dX12_narrowed_1 rfl rfl (by omega) (fun c1 => ?_) (fun c1 => absurd c1 (by omega))
    refine Ex_iload_n dX12_narrowed_10 rfl rfl ?_
    refine Ex_iconst dX12_narrowed_11 rfl ?_
    refine Ex_icmp_ne (t := 21) dX12_narrowed_12 rfl rfl (by omega) (fun c12 => ?_) (fun c12 => absurd c12 (by omega))
    refine Ex_iload_n dX12_narrowed_21 rfl rfl ?_
    refine Ex_i2l dX12_narrowed_22 rfl (by omega) ?_
    refine Ex_lret dX12_narrowed_23 rfl ?_
    exact ⟨rfl, rfl⟩
theorem x12_put_why {E : am_E} {d : Nat} {h : Hp} {m n : Nat} {mm hi : Int} {K F T S C : Nat → Int} {σ : Nat → Nat → Int} {hw ck cf rs : Nat → Int} {rx : Nat → List Int} {a p v : Int}  (I : MI h m (n, mm, K, F, T, S, C) hi σ) (hn6 : n ≤ 6) (hg : Rng n T S C) (hK : ∀ i, i < n → (0 ≤ K i ∧ K i ≤ 7) ∧ (0 ≤ F i ∧ F i ≤ 9)) (hB : E.2 ≤ m) (V : Sv σ hw ck cf rs rx) (ha : (-2147483648 ≤ a ∧ a ≤ 2147483647)) (hp : (-2147483648 ≤ p ∧ p ≤ 2147483647)) (hv : (-2147483648 ≤ v ∧ v ≤ 2147483647)) (q : ¬ ((0 ≤ a ∧ a ≤ 7) ∧ hw a.toNat = 2))  : Ex E (d + 2) mX12_put 0 [.ref m, .int (i32 a), .int (i32 p), .int (i32 v), .retAddr 0] [] h (fun r1 h1 => r1 = some (.int (i32 (why hw a))) ∧ (∃ σ2, MI h1 m (n, mm, K, F, T, S, C) hi σ2 ∧ Sv σ2 hw ck cf rs rx ∧ σ2 16 = σ 16) ∧ Fr h h1 m (m + 23)) := by
  obtain ⟨g, ρ, kp, M, hn, h6, h23, hσ⟩ := I
  have M : MAt h m g K F T S C ρ kp := M
  have hn : g 0 = (n : Int) := hn
  have h6 : g 6 = mm := h6
  have V : Sv ρ hw ck cf rs rx := V.cg hσ
  have h16 : ρ 16 = σ 16 := hσ 16 (Or.inr rfl)
  clear hσ
  have hσ : ∀ j, (6 ≤ j ∧ j ≤ 11) ∨ j = 16 → ρ j = ρ j := fun _ _ => rfl
  have gw := why_r (hw := hw) (a := a)
  refine Ex_aload_n dX12_put_0 rfl rfl ?_
  refine Ex_iconst dX12_put_1 rfl ?_
  refine Ex_put12 (k0 := 13) (v := 0) dX12_put_2 rfl (ma0 M) rfl rfl rfl rfl rfl (by omega) rfl ?_
  refine mg0 M ?_
  intro h1_ M1_ f1_
  refine Ex_aload_n dX12_put_5 rfl rfl ?_
  refine Ex_iload_n dX12_put_6 rfl rfl ?_
  refine Ex_inv 2 dX12_put_7 rfl rfl (Or.inl rfl) rfl rfl rfl rfl (ma0 M1_) rfl rfl rfl (Ex_post (x12_wR M1_ V (by omega)) ?_)
  rintro _ _ ⟨rfl, e0⟩
  obtain rfl := Eq.symm e0
  rw [if_neg q]
  refine Ex_istore (L2 := [_, _, _, _, _]) dX12_put_10 rfl rfl rfl ?_
  refine Ex_iload dX12_put_12 rfl rfl ?_
  refine Ex_if_ge (t := 20) dX12_put_14 rfl rfl (by omega) (fun c14 => absurd c14 (by omega)) (fun c14 => ?_)
  refine Ex_iload dX12_put_17 rfl rfl ?_
  refine Ex_iret dX12_put_19 rfl rfl ?_
  exact ⟨rfl, ⟨_, ⟨_, _, _, M1_, hn, h6, h23, fun _ _ => rfl⟩, V, h16⟩, f1_⟩
theorem x12_put_no {E : am_E} {d : Nat} {h : Hp} {m n : Nat} {mm hi : Int} {K F T S C : Nat → Int} {σ : Nat → Nat → Int} {hw ck cf rs : Nat → Int} {rx : Nat → List Int} {a p v : Int}  (I : MI h m (n, mm, K, F, T, S, C) hi σ) (hn6 : n ≤ 6) (hg : Rng n T S C) (hK : ∀ i, i < n → (0 ≤ K i ∧ K i ≤ 7) ∧ (0 ≤ F i ∧ F i ≤ 9)) (hB : E.2 ≤ m) (V : Sv σ hw ck cf rs rx) (ha : (-2147483648 ≤ a ∧ a ≤ 2147483647)) (hp : (-2147483648 ≤ p ∧ p ≤ 2147483647)) (hv : (-2147483648 ≤ v ∧ v ≤ 2147483647)) (q : (0 ≤ a ∧ a ≤ 7) ∧ hw a.toNat = 2) (q2 : ¬ (0 ≤ p ∧ p < ((rx a.toNat).length : Int)))  : Ex E (d + 2) mX12_put 0 [.ref m, .int (i32 a), .int (i32 p), .int (i32 v), .retAddr 0] [] h (fun r1 h1 => r1 = some (.int (i32 (-13))) ∧ (∃ σ2, MI h1 m (n, mm, K, F, T, S, C) hi σ2 ∧ Sv σ2 hw ck cf rs rx ∧ σ2 16 = σ 16) ∧ Fr h h1 m (m + 23)) := by
  obtain ⟨g, ρ, kp, M, hn, h6, h23, hσ⟩ := I
  have M : MAt h m g K F T S C ρ kp := M
  have hn : g 0 = (n : Int) := hn
  have h6 : g 6 = mm := h6
  have V : Sv ρ hw ck cf rs rx := V.cg hσ
  have h16 : ρ 16 = σ 16 := hσ 16 (Or.inr rfl)
  clear hσ
  have hσ : ∀ j, (6 ≤ j ∧ j ≤ 11) ∨ j = 16 → ρ j = ρ j := fun _ _ => rfl
  obtain ⟨a, rfl⟩ := Int.eq_ofNat_of_zero_le q.1.1
  have q1n : hw a = 2 := q.2
  obtain ⟨v6, v3, vk, vr⟩ := V a (by omega)
  obtain ⟨w1, w2, w3, w4⟩ := vr q1n
  have q2 : ¬ (0 ≤ p ∧ p < ((rx a).length : Int)) := q2
  refine Ex_aload_n dX12_put_0 rfl rfl ?_
  refine Ex_iconst dX12_put_1 rfl ?_
  refine Ex_put12 (k0 := 13) (v := 0) dX12_put_2 rfl (ma0 M) rfl rfl rfl rfl rfl (by omega) rfl ?_
  refine mg0 M ?_
  intro h1_ M1_ f1_
  refine Ex_aload_n dX12_put_5 rfl rfl ?_
  refine Ex_iload_n dX12_put_6 rfl rfl ?_
  refine Ex_inv 2 dX12_put_7 rfl rfl (Or.inl rfl) rfl rfl rfl rfl (ma0 M1_) rfl rfl rfl (Ex_post (x12_wR M1_ V (by omega)) ?_)
  rintro _ _ ⟨rfl, e0⟩
  obtain rfl := Eq.symm e0
  rw [if_pos q]
  refine Ex_istore (L2 := [_, _, _, _, _]) dX12_put_10 rfl rfl rfl ?_
  refine Ex_iload dX12_put_12 rfl rfl ?_
  refine Ex_if_ge (t := 20) dX12_put_14 rfl rfl (by omega) (fun c14 => ?_) (fun c14 => absurd c14 (by omega))
  refine Ex_iload_n dX12_put_20 rfl rfl ?_
  refine Ex_i2l dX12_put_21 rfl (by omega) ?_
  refine Ex_lconst (z := 0) dX12_put_22 rfl (by decide) ?_
  refine Ex_aload_n dX12_put_23 rfl rfl ?_
  refine Ex_getf dX12_put_24 rfl (ma0 M1_) rfl rfl rfl ?_
  refine Ex_iload_n dX12_put_27 rfl rfl ?_
  refine Ex_iald12 (c := a) dX12_put_28 rfl (ma10 M1_) (by omega) (by omega) ?_
  rw [w2]
  refine Ex_iconst dX12_put_29 rfl ?_
  refine Ex_isub dX12_put_30 rfl ?_
  refine Ex_i2l dX12_put_31 rfl (by omega) ?_
  refine Ex_stat 0 dX12_put_32 rfl rfl (Or.inl rfl) rfl rfl rfl rfl rfl rfl (Ex_post (x12_in (by omega) (by omega) (by omega)) ?_)
  rintro _ _ ⟨rfl, e0⟩
  obtain rfl := Eq.symm e0
  refine Ex_if_ne (t := 41) dX12_put_35 rfl rfl (by omega) (fun c35 => absurd c35 (by omega)) (fun c35 => ?_)
  refine Ex_bipush dX12_put_38 rfl (by decide) ?_
  refine Ex_iret dX12_put_40 rfl rfl ?_
  exact ⟨rfl, ⟨_, ⟨_, _, _, M1_, hn, h6, h23, fun _ _ => rfl⟩, V, h16⟩, f1_⟩
theorem x12_put_yes {E : am_E} {d : Nat} {h : Hp} {m n : Nat} {mm hi : Int} {K F T S C : Nat → Int} {σ : Nat → Nat → Int} {hw ck cf rs : Nat → Int} {rx : Nat → List Int} {a p v : Int}  (I : MI h m (n, mm, K, F, T, S, C) hi σ) (hn6 : n ≤ 6) (hg : Rng n T S C) (hK : ∀ i, i < n → (0 ≤ K i ∧ K i ≤ 7) ∧ (0 ≤ F i ∧ F i ≤ 9)) (hB : E.2 ≤ m) (V : Sv σ hw ck cf rs rx) (ha : (-2147483648 ≤ a ∧ a ≤ 2147483647)) (hp : (-2147483648 ≤ p ∧ p ≤ 2147483647)) (hv : (-2147483648 ≤ v ∧ v ≤ 2147483647)) (q : (0 ≤ a ∧ a ≤ 7) ∧ hw a.toNat = 2) (q2 : 0 ≤ p ∧ p < ((rx a.toNat).length : Int))  : Ex E (d + 2) mX12_put 0 [.ref m, .int (i32 a), .int (i32 p), .int (i32 v), .retAddr 0] [] h (fun r1 h1 => r1 = some (.int (i32 (0))) ∧ (∃ σ2, MI h1 m (n, mm, K, F, T, S, C) hi σ2 ∧ Sv σ2 hw ck cf rs (fuL rx a.toNat ((rx a.toNat).set p.toNat (nrw (rs a.toNat) v))) ∧ σ2 16 = σ 16) ∧ Fr h h1 m (m + 23)) := by
  obtain ⟨g, ρ, kp, M, hn, h6, h23, hσ⟩ := I
  have M : MAt h m g K F T S C ρ kp := M
  have hn : g 0 = (n : Int) := hn
  have h6 : g 6 = mm := h6
  have V : Sv ρ hw ck cf rs rx := V.cg hσ
  have h16 : ρ 16 = σ 16 := hσ 16 (Or.inr rfl)
  clear hσ
  have hσ : ∀ j, (6 ≤ j ∧ j ≤ 11) ∨ j = 16 → ρ j = ρ j := fun _ _ => rfl
  obtain ⟨a, rfl⟩ := Int.eq_ofNat_of_zero_le q.1.1
  have q1n : hw a = 2 := q.2
  obtain ⟨v6, v3, vk, vr⟩ := V a (by omega)
  obtain ⟨w1, w2, w3, w4⟩ := vr q1n
  obtain ⟨p, rfl⟩ := Int.eq_ofNat_of_zero_le q2.1
  have q2 : 0 ≤ (p : Int) ∧ (p : Int) < ((rx a).length : Int) := q2
  refine Ex_aload_n dX12_put_0 rfl rfl ?_
  refine Ex_iconst dX12_put_1 rfl ?_
  refine Ex_put12 (k0 := 13) (v := 0) dX12_put_2 rfl (ma0 M) rfl rfl rfl rfl rfl (by omega) rfl ?_
  refine mg0 M ?_
  intro h1_ M1_ f1_
  refine Ex_aload_n dX12_put_5 rfl rfl ?_
  refine Ex_iload_n dX12_put_6 rfl rfl ?_
  refine Ex_inv 2 dX12_put_7 rfl rfl (Or.inl rfl) rfl rfl rfl rfl (ma0 M1_) rfl rfl rfl (Ex_post (x12_wR M1_ V (by omega)) ?_)
  rintro _ _ ⟨rfl, e0⟩
  obtain rfl := Eq.symm e0
  rw [if_pos q]
  refine Ex_istore (L2 := [_, _, _, _, _]) dX12_put_10 rfl rfl rfl ?_
  refine Ex_iload dX12_put_12 rfl rfl ?_
  refine Ex_if_ge (t := 20) dX12_put_14 rfl rfl (by omega) (fun c14 => ?_) (fun c14 => absurd c14 (by omega))
  refine Ex_iload_n dX12_put_20 rfl rfl ?_
  refine Ex_i2l dX12_put_21 rfl (by omega) ?_
  refine Ex_lconst (z := 0) dX12_put_22 rfl (by decide) ?_
  refine Ex_aload_n dX12_put_23 rfl rfl ?_
  refine Ex_getf dX12_put_24 rfl (ma0 M1_) rfl rfl rfl ?_
  refine Ex_iload_n dX12_put_27 rfl rfl ?_
  refine Ex_iald12 (c := a) dX12_put_28 rfl (ma10 M1_) (by omega) (by omega) ?_
  rw [w2]
  refine Ex_iconst dX12_put_29 rfl ?_
  refine Ex_isub dX12_put_30 rfl ?_
  refine Ex_i2l dX12_put_31 rfl (by omega) ?_
  refine Ex_stat 0 dX12_put_32 rfl rfl (Or.inl rfl) rfl rfl rfl rfl rfl rfl (Ex_post (x12_in (by omega) (by omega) (by omega)) ?_)
  rintro _ _ ⟨rfl, e0⟩
  obtain rfl := Eq.symm e0
  refine Ex_if_ne (t := 41) dX12_put_35 rfl rfl (by omega) (fun c35 => ?_) (fun c35 => absurd c35 (by omega))
  refine Ex_aload_n dX12_put_41 rfl rfl ?_
  refine Ex_getf dX12_put_42 rfl (ma0 M1_) rfl rfl rfl ?_
  refine Ex_bipush dX12_put_45 rfl (by decide) ?_
  refine Ex_iload_n dX12_put_47 rfl rfl ?_
  refine Ex_imul dX12_put_48 rfl ?_
  refine Ex_iload_n dX12_put_49 rfl rfl ?_
  refine Ex_iadd dX12_put_50 rfl ?_
  refine Ex_iload_n dX12_put_51 rfl rfl ?_
  refine Ex_aload_n dX12_put_52 rfl rfl ?_
  refine Ex_getf dX12_put_53 rfl (ma0 M1_) rfl rfl rfl ?_
  refine Ex_iload_n dX12_put_56 rfl rfl ?_
  refine Ex_iald12 (c := a) dX12_put_57 rfl (ma9 M1_) (by omega) (by omega) ?_
  rw [w1.1]
  refine Ex_stat 0 dX12_put_58 rfl rfl (Or.inl rfl) rfl rfl rfl rfl rfl rfl (Ex_post (x12_narrowed (by omega) (by omega)) ?_)
  rintro _ _ ⟨rfl, e0⟩
  obtain rfl := Eq.symm e0
  refine Ex_last12 (c := (100 * a + p)) dX12_put_61 rfl (ma11 M1_) (by omega) (by omega) (by omega) ?_
  refine mg11 M1_ ?_
  intro h2_ M2_ f2_
  refine Ex_iconst dX12_put_62 rfl ?_
  refine Ex_iret dX12_put_63 rfl rfl ?_
  refine ⟨rfl, ⟨_, ⟨_, _, _, M2_, hn, h6, h23, fun _ _ => rfl⟩, ?_, h16⟩, (f1_.trans f2_)⟩
  refine V.cells (d := a) q1n (by simp) rfl rfl rfl rfl rfl (fun j hj => ?_) (fun j hj => ?_)
  · have hj : j < (rx a).length := by simpa using hj
    show fu (ρ 11) (100 * a + p) _ (100 * a + j) = ((rx a).set p (nrw (rs a) v)).getD j 0 ∧ -2147483648 ≤ ((rx a).set p (nrw (rs a) v)).getD j 0 ∧ ((rx a).set p (nrw (rs a) v)).getD j 0 ≤ 2147483647
    have hs : ((rx a).set p (nrw (rs a) v)).getD j 0 = if p = j then nrw (rs a) v else (rx a).getD j 0 := by
      simp only [List.getD, List.getElem?_set]
      by_cases e : p = j
      · simp only [e, if_true, if_pos hj]; rfl
      · simp only [e, if_false]
    rw [hs]
    by_cases e : p = j
    · rw [if_pos e, e, fu_at]
      exact ⟨rfl, nrw_r (by omega)⟩
    · rw [if_neg e, fu_ne (by omega)]
      exact w4 j hj
  · show fu (ρ 11) (100 * a + p) _ j = ρ 11 j
    rw [fu_ne (by omega)]
