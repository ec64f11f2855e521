/-! more calls of the class (by program: wip/whole/spec_n.py) -/
theorem x11_bands_l {E : am_E} {d : Nat} {h : Hp} {x y n : Nat} {hi m tu : Int} {kr : Nat → Nat} {K F T S C : Nat → Int} {c : Nat} {a v : Int}  (Z : Scr h x hi) (R : RailAt h (x + 10) n m tu kr T S C) (hg : Rng n T S C) (ky : KY h y n kr K F) (hB : E.2 ≤ x) (hy : x + 57 ≤ y) (hcn : c < n) (hs7 : S c < 7) (ha : 0 ≤ a ∧ a ≤ 9) (hv : 1 ≤ v ∧ v ≤ 9)  : ∀ (k : Nat) (w : Int) (v6 v7 : Value), w + k = 12 → 0 ≤ w ∧ w ≤ a → Ex E (d + 2) mX11_bands 58 [.ref x, .int (i32 (c : Int)), .int (i32 a), .int (i32 v), .ref (x + 10 + 2 + c), .int (i32 w), v6, v7] [] h (fun r1 h1 => r1 = some (.int (i32 (bandsL (T c) (sp_needs (K c) (F c) (S c)) a v w k))) ∧ h1 = h) := by
  obtain ⟨⟨bs, z0⟩, z1, ⟨f2, z2⟩, ⟨f3, z3⟩, ⟨f4, z4⟩, ⟨f5, z5⟩, zr0, zr1, zr2, ⟨k5, t5, s5, c5, z55⟩, ⟨k6, t6, s6, c6, z56⟩⟩ := id Z
  obtain ⟨hr, hA, hP, hG, hn6⟩ := id R
  have kk := ky.ok (r := x + 10) (by omega)
  have hgc := hg c hcn
  have kc := (kk c hcn).1
  have hnr := sp_needs_r (k := K c) kc.2.2.2 hgc.2.1
  have hnd : sp_nd (K c) (F c) (S c) = sp_needs (K c) (F c) (S c) := by unfold sp_nd; rw [if_neg (by omega)]
  intro k
  induction k with
  | zero =>
    intro w v6 v7 hk hw
    exfalso
    omega
  | succ k ih =>
    intro w v6 v7 hk hw
    have hw1 : w * 1 ≤ w * v := Int.mul_le_mul_of_nonneg_left hv.1 hw.1
    have hw2 : w * v ≤ 12 * 9 := Int.mul_le_mul (by omega) (by omega) (by omega) (by omega)
    rw [Int.mul_one] at hw1
    have ea : bandsL (T c) (sp_needs (K c) (F c) (S c)) a v w (k + 1) = if min 20 (T c + w) < max 0 (sp_needs (K c) (F c) (S c) - max 0 (a - w * v)) then w else if a - w * v ≤ 0 then -4 else bandsL (T c) (sp_needs (K c) (F c) (S c)) a v (w + 1) k := rfl
    rw [ea]
    obtain ⟨air, hair⟩ : ∃ z, z = max 0 (a - w * v) := ⟨_, rfl⟩
    obtain ⟨t9, ht9⟩ : ∃ z, z = min 20 (T c + w) := ⟨_, rfl⟩
    have hair2 : 0 ≤ air ∧ air ≤ 9 := by omega
    rw [← hair, ← ht9]
    by_cases p1 : t9 < max 0 (sp_needs (K c) (F c) (S c) - air)
    rotate_left
    by_cases p2 : a - w * v ≤ 0
    rotate_left
    · rw [if_neg p1, if_neg p2]
      refine Ex_iload dX11_bands_58 rfl rfl ?_
      refine Ex_iload_n dX11_bands_60 rfl rfl ?_
      refine Ex_icmp_gt (t := 125) dX11_bands_61 rfl rfl (by omega) (fun c61 => absurd c61 (by omega)) (fun c61 => ?_)
      refine Ex_iconst dX11_bands_64 rfl ?_
      refine Ex_iload_n dX11_bands_65 rfl rfl ?_
      refine Ex_iload dX11_bands_66 rfl rfl ?_
      refine Ex_iload_n dX11_bands_68 rfl rfl ?_
      refine Ex_imul dX11_bands_69 rfl ?_
      refine Ex_isub dX11_bands_70 rfl ?_
      refine Ex_max dX11_bands_71 rfl rfl rfl (by omega) ?_
      rw [← hair]
      refine Ex_istore (L2 := [_, _, _, _, _, _, _, _]) dX11_bands_74 rfl rfl rfl ?_
      refine Ex_bipush dX11_bands_76 rfl (by decide) ?_
      refine Ex_aload dX11_bands_78 rfl rfl ?_
      refine Ex_getf dX11_bands_80 rfl (by first | exact z0 | exact z1 | exact hr | exact hA | exact hP _ (by omega) | exact z2 | exact z3 | exact z4 | exact z5 | exact (kk _ (by omega)).1.1 | exact z55 | exact z56) rfl rfl rfl ?_
      refine Ex_iload dX11_bands_83 rfl rfl ?_
      refine Ex_iadd dX11_bands_85 rfl ?_
      refine Ex_min dX11_bands_86 rfl rfl rfl (by omega) ?_
      rw [← ht9]
      refine Ex_istore (L2 := [_, _, _, _, _, _, _, _]) dX11_bands_89 rfl rfl rfl ?_
      refine Ex_iload dX11_bands_91 rfl rfl ?_
      refine Ex_iconst dX11_bands_93 rfl ?_
      refine Ex_aload dX11_bands_94 rfl rfl ?_
      refine Ex_inv 2 dX11_bands_96 rfl rfl (Or.inl rfl) rfl rfl rfl rfl (hP c hcn) rfl rfl rfl (Ex_post (x5_needs (hP c hcn) hgc.2.1 kc) ?_)
      rintro _ _ ⟨rfl, e0⟩
      obtain rfl := Eq.symm e0
      rw [hnd]
      refine Ex_iload dX11_bands_99 rfl rfl ?_
      refine Ex_isub dX11_bands_101 rfl ?_
      refine Ex_max dX11_bands_102 rfl rfl rfl (by omega) ?_
      refine Ex_icmp_ge (t := 111) dX11_bands_105 rfl rfl (by omega) (fun c105 => ?_) (fun c105 => absurd c105 (by omega))
      refine Ex_iload dX11_bands_111 rfl rfl ?_
      refine Ex_if_ne (t := 119) dX11_bands_113 rfl rfl (by omega) (fun c113 => ?_) (fun c113 => absurd c113 (by omega))
      refine Ex_iinc (L2 := [_, _, _, _, _, _, _, _]) dX11_bands_119 rfl rfl rfl ?_
      refine Ex_goto (t := 58) dX11_bands_122 rfl ?_
      exact ih (w + 1) _ _ (by omega) (by omega)
    · rw [if_pos p1]
      refine Ex_iload dX11_bands_58 rfl rfl ?_
      refine Ex_iload_n dX11_bands_60 rfl rfl ?_
      refine Ex_icmp_gt (t := 125) dX11_bands_61 rfl rfl (by omega) (fun c61 => absurd c61 (by omega)) (fun c61 => ?_)
      refine Ex_iconst dX11_bands_64 rfl ?_
      refine Ex_iload_n dX11_bands_65 rfl rfl ?_
      refine Ex_iload dX11_bands_66 rfl rfl ?_
      refine Ex_iload_n dX11_bands_68 rfl rfl ?_
      refine Ex_imul dX11_bands_69 rfl ?_
      refine Ex_isub dX11_bands_70 rfl ?_
      refine Ex_max dX11_bands_71 rfl rfl rfl (by omega) ?_
      rw [← hair]
      refine Ex_istore (L2 := [_, _, _, _, _, _, _, _]) dX11_bands_74 rfl rfl rfl ?_
      refine Ex_bipush dX11_bands_76 rfl (by decide) ?_
      refine Ex_aload dX11_bands_78 rfl rfl ?_
      refine Ex_getf dX11_bands_80 rfl (by first | exact z0 | exact z1 | exact hr | exact hA | exact hP _ (by omega) | exact z2 | exact z3 | exact z4 | exact z5 | exact (kk _ (by omega)).1.1 | exact z55 | exact z56) rfl rfl rfl ?_
      refine Ex_iload dX11_bands_83 rfl rfl ?_
      refine Ex_iadd dX11_bands_85 rfl ?_
      refine Ex_min dX11_bands_86 rfl rfl rfl (by omega) ?_
      rw [← ht9]
      refine Ex_istore (L2 := [_, _, _, _, _, _, _, _]) dX11_bands_89 rfl rfl rfl ?_
      refine Ex_iload dX11_bands_91 rfl rfl ?_
      refine Ex_iconst dX11_bands_93 rfl ?_
      refine Ex_aload dX11_bands_94 rfl rfl ?_
      refine Ex_inv 2 dX11_bands_96 rfl rfl (Or.inl rfl) rfl rfl rfl rfl (hP c hcn) rfl rfl rfl (Ex_post (x5_needs (hP c hcn) hgc.2.1 kc) ?_)
      rintro _ _ ⟨rfl, e0⟩
      obtain rfl := Eq.symm e0
      rw [hnd]
      refine Ex_iload dX11_bands_99 rfl rfl ?_
      refine Ex_isub dX11_bands_101 rfl ?_
      refine Ex_max dX11_bands_102 rfl rfl rfl (by omega) ?_
      refine Ex_icmp_ge (t := 111) dX11_bands_105 rfl rfl (by omega) (fun c105 => absurd c105 (by omega)) (fun c105 => ?_)
      refine Ex_iload dX11_bands_108 rfl rfl ?_
      refine Ex_iret dX11_bands_110 rfl rfl ?_
      exact ⟨rfl, rfl⟩
    · rw [if_neg p1, if_pos p2]
      refine Ex_iload dX11_bands_58 rfl rfl ?_
      refine Ex_iload_n dX11_bands_60 rfl rfl ?_
      refine Ex_icmp_gt (t := 125) dX11_bands_61 rfl rfl (by omega) (fun c61 => absurd c61 (by omega)) (fun c61 => ?_)
      refine Ex_iconst dX11_bands_64 rfl ?_
      refine Ex_iload_n dX11_bands_65 rfl rfl ?_
      refine Ex_iload dX11_bands_66 rfl rfl ?_
      refine Ex_iload_n dX11_bands_68 rfl rfl ?_
      refine Ex_imul dX11_bands_69 rfl ?_
      refine Ex_isub dX11_bands_70 rfl ?_
      refine Ex_max dX11_bands_71 rfl rfl rfl (by omega) ?_
      rw [← hair]
      refine Ex_istore (L2 := [_, _, _, _, _, _, _, _]) dX11_bands_74 rfl rfl rfl ?_
      refine Ex_bipush dX11_bands_76 rfl (by decide) ?_
      refine Ex_aload dX11_bands_78 rfl rfl ?_
      refine Ex_getf dX11_bands_80 rfl (by first | exact z0 | exact z1 | exact hr | exact hA | exact hP _ (by omega) | exact z2 | exact z3 | exact z4 | exact z5 | exact (kk _ (by omega)).1.1 | exact z55 | exact z56) rfl rfl rfl ?_
      refine Ex_iload dX11_bands_83 rfl rfl ?_
      refine Ex_iadd dX11_bands_85 rfl ?_
      refine Ex_min dX11_bands_86 rfl rfl rfl (by omega) ?_
      rw [← ht9]
      refine Ex_istore (L2 := [_, _, _, _, _, _, _, _]) dX11_bands_89 rfl rfl rfl ?_
      refine Ex_iload dX11_bands_91 rfl rfl ?_
      refine Ex_iconst dX11_bands_93 rfl ?_
      refine Ex_aload dX11_bands_94 rfl rfl ?_
      refine Ex_inv 2 dX11_bands_96 rfl rfl (Or.inl rfl) rfl rfl rfl rfl (hP c hcn) rfl rfl rfl (Ex_post (x5_needs (hP c hcn) hgc.2.1 kc) ?_)
      rintro _ _ ⟨rfl, e0⟩
      obtain rfl := Eq.symm e0
      rw [hnd]
      refine Ex_iload dX11_bands_99 rfl rfl ?_
      refine Ex_isub dX11_bands_101 rfl ?_
      refine Ex_max dX11_bands_102 rfl rfl rfl (by omega) ?_
      refine Ex_icmp_ge (t := 111) dX11_bands_105 rfl rfl (by omega) (fun c105 => ?_) (fun c105 => absurd c105 (by omega))
      refine Ex_iload dX11_bands_111 rfl rfl ?_
      refine Ex_if_ne (t := 119) dX11_bands_113 rfl rfl (by omega) (fun c113 => absurd c113 (by omega)) (fun c113 => ?_)
      refine Ex_bipush dX11_bands_116 rfl (by decide) ?_
      refine Ex_iret dX11_bands_118 rfl rfl ?_
      exact ⟨rfl, rfl⟩
theorem x11_bands {E : am_E} {d : Nat} {h : Hp} {x y n : Nat} {hi m tu : Int} {kr : Nat → Nat} {K F T S C : Nat → Int} {c a v : Int}  (Z : Scr h x hi) (R : RailAt h (x + 10) n m tu kr T S C) (hg : Rng n T S C) (ky : KY h y n kr K F) (hB : E.2 ≤ x) (hy : x + 57 ≤ y) (hc : (-2147483648 ≤ c ∧ c ≤ 2147483647)) (ha : (-2147483648 ≤ a ∧ a ≤ 2147483647)) (hv : (-2147483648 ≤ v ∧ v ≤ 2147483647))  : Ex E (d + 2) mX11_bands 0 [.ref x, .int (i32 c), .int (i32 a), .int (i32 v), .retAddr 0, .retAddr 0, .retAddr 0, .retAddr 0] [] h (fun r1 h1 => r1 = some (.int (i32 (an_bands n K F T S c a v))) ∧ h1 = h) := by
  obtain ⟨⟨bs, z0⟩, z1, ⟨f2, z2⟩, ⟨f3, z3⟩, ⟨f4, z4⟩, ⟨f5, z5⟩, zr0, zr1, zr2, ⟨k5, t5, s5, c5, z55⟩, ⟨k6, t6, s6, c6, z56⟩⟩ := id Z
  obtain ⟨hr, hA, hP, hG, hn6⟩ := id R
  have kk := ky.ok (r := x + 10) (by omega)
  by_cases q : (0 ≤ c ∧ c < (n : Int)) ∧ (0 ≤ a ∧ a ≤ 9) ∧ (1 ≤ v ∧ v ≤ 9)
  · obtain ⟨c, rfl⟩ := Int.eq_ofNat_of_zero_le (show 0 ≤ c by omega)
    have hcn : c < n := by omega
    have hgc := hg c hcn
    have kc := (kk c hcn).1
    by_cases q1 : S c = 7
    · have ea : an_bands n K F T S (c : Int) a v = -3 := by unfold an_bands; rw [if_pos q]; exact if_pos q1
      rw [ea]
      refine Ex_aload_n dX11_bands_0 rfl rfl ?_
      refine Ex_getf dX11_bands_1 rfl (by first | exact z0 | exact z1 | exact hr | exact hA | exact hP _ (by omega) | exact z2 | exact z3 | exact z4 | exact z5 | exact (kk _ (by omega)).1.1 | exact z55 | exact z56) rfl rfl rfl ?_
      refine Ex_iload_n dX11_bands_4 rfl rfl ?_
      refine Ex_inv 2 dX11_bands_5 rfl rfl (Or.inl rfl) rfl rfl rfl rfl hr rfl rfl rfl (Ex_post (x7_has R (by omega)) ?_)
      rintro _ _ ⟨rfl, e0⟩
      obtain rfl := Eq.symm e0
      refine Ex_if_eq (t := 31) dX11_bands_8 rfl rfl (by omega) (fun c8 => absurd c8 (by omega)) (fun c8 => ?_)
      refine Ex_iload_n dX11_bands_11 rfl rfl ?_
      refine Ex_iconst dX11_bands_12 rfl ?_
      refine Ex_bipush dX11_bands_13 rfl (by decide) ?_
      refine Ex_stat 0 dX11_bands_15 rfl rfl (Or.inl rfl) rfl rfl rfl rfl rfl rfl (Ex_post (x11_within (by omega)) ?_)
      rintro _ _ ⟨rfl, e0⟩
      obtain rfl := Eq.symm e0
      refine Ex_if_eq (t := 31) dX11_bands_18 rfl rfl (by omega) (fun c18 => absurd c18 (by omega)) (fun c18 => ?_)
      refine Ex_iload_n dX11_bands_21 rfl rfl ?_
      refine Ex_iconst dX11_bands_22 rfl ?_
      refine Ex_bipush dX11_bands_23 rfl (by decide) ?_
      refine Ex_stat 0 dX11_bands_25 rfl rfl (Or.inl rfl) rfl rfl rfl rfl rfl rfl (Ex_post (x11_within (by omega)) ?_)
      rintro _ _ ⟨rfl, e0⟩
      obtain rfl := Eq.symm e0
      refine Ex_if_ne (t := 33) dX11_bands_28 rfl rfl (by omega) (fun c28 => ?_) (fun c28 => absurd c28 (by omega))
      refine Ex_aload_n dX11_bands_33 rfl rfl ?_
      refine Ex_getf dX11_bands_34 rfl (by first | exact z0 | exact z1 | exact hr | exact hA | exact hP _ (by omega) | exact z2 | exact z3 | exact z4 | exact z5 | exact (kk _ (by omega)).1.1 | exact z55 | exact z56) rfl rfl rfl ?_
      refine Ex_getf dX11_bands_37 rfl (by first | exact z0 | exact z1 | exact hr | exact hA | exact hP _ (by omega) | exact z2 | exact z3 | exact z4 | exact z5 | exact (kk _ (by omega)).1.1 | exact z55 | exact z56) rfl rfl rfl ?_
      refine Ex_iload_n dX11_bands_40 rfl rfl ?_
      refine Ex_aald dX11_bands_41 rfl (by first | exact z0 | exact z1 | exact hr | exact hA | exact hP _ (by omega) | exact z2 | exact z3 | exact z4 | exact z5 | exact (kk _ (by omega)).1.1 | exact z55 | exact z56) (by omega) (by omega) (rarr_get (by omega)) ?_
      refine Ex_astore (L2 := [_, _, _, _, _, _, _, _]) dX11_bands_42 rfl rfl rfl ?_
      refine Ex_aload dX11_bands_44 rfl rfl ?_
      refine Ex_inv 2 dX11_bands_46 rfl rfl (Or.inl rfl) rfl rfl rfl rfl (hP c hcn) rfl rfl rfl (Ex_post (x5_swims (hP c hcn) hgc.2.1) ?_)
      rintro _ _ ⟨rfl, e0⟩
      obtain rfl := Eq.symm e0
      refine Ex_if_eq (t := 55) dX11_bands_49 rfl rfl (by omega) (fun c49 => absurd c49 (by omega)) (fun c49 => ?_)
      refine Ex_bipush dX11_bands_52 rfl (by decide) ?_
      refine Ex_iret dX11_bands_54 rfl rfl ?_
      exact ⟨rfl, rfl⟩
    · have ea : an_bands n K F T S (c : Int) a v = bandsL (T c) (sp_needs (K c) (F c) (S c)) a v 0 12 := by unfold an_bands; rw [if_pos q]; exact if_neg q1
      rw [ea]
      refine Ex_aload_n dX11_bands_0 rfl rfl ?_
      refine Ex_getf dX11_bands_1 rfl (by first | exact z0 | exact z1 | exact hr | exact hA | exact hP _ (by omega) | exact z2 | exact z3 | exact z4 | exact z5 | exact (kk _ (by omega)).1.1 | exact z55 | exact z56) rfl rfl rfl ?_
      refine Ex_iload_n dX11_bands_4 rfl rfl ?_
      refine Ex_inv 2 dX11_bands_5 rfl rfl (Or.inl rfl) rfl rfl rfl rfl hr rfl rfl rfl (Ex_post (x7_has R (by omega)) ?_)
      rintro _ _ ⟨rfl, e0⟩
      obtain rfl := Eq.symm e0
      refine Ex_if_eq (t := 31) dX11_bands_8 rfl rfl (by omega) (fun c8 => absurd c8 (by omega)) (fun c8 => ?_)
      refine Ex_iload_n dX11_bands_11 rfl rfl ?_
      refine Ex_iconst dX11_bands_12 rfl ?_
      refine Ex_bipush dX11_bands_13 rfl (by decide) ?_
      refine Ex_stat 0 dX11_bands_15 rfl rfl (Or.inl rfl) rfl rfl rfl rfl rfl rfl (Ex_post (x11_within (by omega)) ?_)
      rintro _ _ ⟨rfl, e0⟩
      obtain rfl := Eq.symm e0
      refine Ex_if_eq (t := 31) dX11_bands_18 rfl rfl (by omega) (fun c18 => absurd c18 (by omega)) (fun c18 => ?_)
      refine Ex_iload_n dX11_bands_21 rfl rfl ?_
      refine Ex_iconst dX11_bands_22 rfl ?_
      refine Ex_bipush dX11_bands_23 rfl (by decide) ?_
      refine Ex_stat 0 dX11_bands_25 rfl rfl (Or.inl rfl) rfl rfl rfl rfl rfl rfl (Ex_post (x11_within (by omega)) ?_)
      rintro _ _ ⟨rfl, e0⟩
      obtain rfl := Eq.symm e0
      refine Ex_if_ne (t := 33) dX11_bands_28 rfl rfl (by omega) (fun c28 => ?_) (fun c28 => absurd c28 (by omega))
      refine Ex_aload_n dX11_bands_33 rfl rfl ?_
      refine Ex_getf dX11_bands_34 rfl (by first | exact z0 | exact z1 | exact hr | exact hA | exact hP _ (by omega) | exact z2 | exact z3 | exact z4 | exact z5 | exact (kk _ (by omega)).1.1 | exact z55 | exact z56) rfl rfl rfl ?_
      refine Ex_getf dX11_bands_37 rfl (by first | exact z0 | exact z1 | exact hr | exact hA | exact hP _ (by omega) | exact z2 | exact z3 | exact z4 | exact z5 | exact (kk _ (by omega)).1.1 | exact z55 | exact z56) rfl rfl rfl ?_
      refine Ex_iload_n dX11_bands_40 rfl rfl ?_
      refine Ex_aald dX11_bands_41 rfl (by first | exact z0 | exact z1 | exact hr | exact hA | exact hP _ (by omega) | exact z2 | exact z3 | exact z4 | exact z5 | exact (kk _ (by omega)).1.1 | exact z55 | exact z56) (by omega) (by omega) (rarr_get (by omega)) ?_
      refine Ex_astore (L2 := [_, _, _, _, _, _, _, _]) dX11_bands_42 rfl rfl rfl ?_
      refine Ex_aload dX11_bands_44 rfl rfl ?_
      refine Ex_inv 2 dX11_bands_46 rfl rfl (Or.inl rfl) rfl rfl rfl rfl (hP c hcn) rfl rfl rfl (Ex_post (x5_swims (hP c hcn) hgc.2.1) ?_)
      rintro _ _ ⟨rfl, e0⟩
      obtain rfl := Eq.symm e0
      refine Ex_if_eq (t := 55) dX11_bands_49 rfl rfl (by omega) (fun c49 => ?_) (fun c49 => absurd c49 (by omega))
      refine Ex_iconst dX11_bands_55 rfl ?_
      refine Ex_istore (L2 := [_, _, _, _, _, _, _, _]) dX11_bands_56 rfl rfl rfl ?_
      exact x11_bands_l Z R hg ky hB hy hcn (by omega) q.2.1 q.2.2 12 0 _ _ (by omega) (by omega)
  · refine Ex_aload_n dX11_bands_0 rfl rfl ?_
    refine Ex_getf dX11_bands_1 rfl (by first | exact z0 | exact z1 | exact hr | exact hA | exact hP _ (by omega) | exact z2 | exact z3 | exact z4 | exact z5 | exact (kk _ (by omega)).1.1 | exact z55 | exact z56) rfl rfl rfl ?_
    refine Ex_iload_n dX11_bands_4 rfl rfl ?_
    refine Ex_inv 2 dX11_bands_5 rfl rfl (Or.inl rfl) rfl rfl rfl rfl hr rfl rfl rfl (Ex_post (x7_has R (by omega)) ?_)
    rintro _ _ ⟨rfl, e0⟩
    obtain rfl := Eq.symm e0
    refine Ex_if_eq (t := 31) dX11_bands_8 rfl rfl (by omega) (fun c8 => ?_) (fun c8 => ?_)
    · refine Ex_iconst dX11_bands_31 rfl ?_
      refine Ex_iret dX11_bands_32 rfl rfl ?_
      exact ⟨ri (by unfold an_bands; rw [if_neg q]), rfl⟩
    · refine Ex_iload_n dX11_bands_11 rfl rfl ?_
      refine Ex_iconst dX11_bands_12 rfl ?_
      refine Ex_bipush dX11_bands_13 rfl (by decide) ?_
      refine Ex_stat 0 dX11_bands_15 rfl rfl (Or.inl rfl) rfl rfl rfl rfl rfl rfl (Ex_post (x11_within (by omega)) ?_)
      rintro _ _ ⟨rfl, e0⟩
      obtain rfl := Eq.symm e0
      refine Ex_if_eq (t := 31) dX11_bands_18 rfl rfl (by omega) (fun c18 => ?_) (fun c18 => ?_)
      · refine Ex_iconst dX11_bands_31 rfl ?_
        refine Ex_iret dX11_bands_32 rfl rfl ?_
        exact ⟨ri (by unfold an_bands; rw [if_neg q]), rfl⟩
      · refine Ex_iload_n dX11_bands_21 rfl rfl ?_
        refine Ex_iconst dX11_bands_22 rfl ?_
        refine Ex_bipush dX11_bands_23 rfl (by decide) ?_
        refine Ex_stat 0 dX11_bands_25 rfl rfl (Or.inl rfl) rfl rfl rfl rfl rfl rfl (Ex_post (x11_within (by omega)) ?_)
        rintro _ _ ⟨rfl, e0⟩
        obtain rfl := Eq.symm e0
        refine Ex_if_ne (t := 33) dX11_bands_28 rfl rfl (by omega) (fun c28 => ?_) (fun c28 => ?_)
        · exfalso; omega
        · refine Ex_iconst dX11_bands_31 rfl ?_
          refine Ex_iret dX11_bands_32 rfl rfl ?_
          exact ⟨ri (by unfold an_bands; rw [if_neg q]), rfl⟩
theorem x11_daring {E : am_E} {d : Nat} {h : Hp} {p kr : Nat} {t s c k f own oth : Int}  (hp : h.1 p = some (pcell kr t s c)) (ht : 0 ≤ t ∧ t ≤ 20) (hs : 0 ≤ s ∧ s ≤ 7) (kc : KindAt h kr k f) (ho : 0 ≤ own ∧ own ≤ 1) (ho2 : 0 ≤ oth ∧ oth ≤ 1)  : Ex E (d + 2) mX11_daring 0 [.ref p, .int (i32 own), .int (i32 oth)] [] h (fun r1 h1 => r1 = some (.int (i32 (dv k f t s own oth))) ∧ h1 = h) := by
  have hfr := sp_fright_r (k := k) kc.2.2.2
  by_cases q : own = 0
  rotate_left
  by_cases q2 : s = 7
  rotate_left
  by_cases q3 : sp_needs k f s ≤ t
  rotate_left
  · have ea : dv k f t s own oth = 1 + oth - sp_fright k f := by unfold dv; rw [if_neg q, if_neg (by omega)]
    rw [ea]
    refine Ex_iload_n dX11_daring_0 rfl rfl ?_
    refine Ex_if_ne (t := 7) dX11_daring_1 rfl rfl (by omega) (fun c1 => ?_) (fun c1 => absurd c1 (by omega))
    refine Ex_iconst dX11_daring_7 rfl ?_
    refine Ex_iload_n dX11_daring_8 rfl rfl ?_
    refine Ex_iadd dX11_daring_9 rfl ?_
    refine Ex_aload_n dX11_daring_10 rfl rfl ?_
    refine Ex_inv 2 dX11_daring_11 rfl rfl (Or.inl rfl) rfl rfl rfl rfl hp rfl rfl rfl (Ex_post (x5_swims hp hs) ?_)
    rintro _ _ ⟨rfl, e0⟩
    obtain rfl := Eq.symm e0
    refine Ex_if_ne (t := 24) dX11_daring_14 rfl rfl (by omega) (fun c14 => absurd c14 (by omega)) (fun c14 => ?_)
    refine Ex_aload_n dX11_daring_17 rfl rfl ?_
    refine Ex_inv 2 dX11_daring_18 rfl rfl (Or.inl rfl) rfl rfl rfl rfl hp rfl rfl rfl (Ex_post (x5_isReady hp ht hs kc) ?_)
    rintro _ _ ⟨rfl, e0⟩
    obtain rfl := Eq.symm e0
    refine Ex_if_eq (t := 28) dX11_daring_21 rfl rfl (by omega) (fun c21 => ?_) (fun c21 => absurd c21 (by omega))
    refine Ex_aload_n dX11_daring_28 rfl rfl ?_
    refine Ex_getf dX11_daring_29 rfl (by first | exact hp | exact kc.1) rfl rfl rfl ?_
    refine Ex_getf dX11_daring_32 rfl (by first | exact hp | exact kc.1) rfl (ktag_in _) rfl ?_
    refine Ex_isub dX11_daring_35 rfl ?_
    refine Ex_iret dX11_daring_36 rfl rfl ?_
    exact ⟨rfl, rfl⟩
  · have ea : dv k f t s own oth = -oth := by unfold dv; rw [if_pos q]
    rw [ea]
    refine Ex_iload_n dX11_daring_0 rfl rfl ?_
    refine Ex_if_ne (t := 7) dX11_daring_1 rfl rfl (by omega) (fun c1 => absurd c1 (by omega)) (fun c1 => ?_)
    refine Ex_iload_n dX11_daring_4 rfl rfl ?_
    refine Ex_ineg dX11_daring_5 rfl ?_
    refine Ex_iret dX11_daring_6 rfl rfl ?_
    exact ⟨rfl, rfl⟩
  · have ea : dv k f t s own oth = 1 + oth - 0 := by unfold dv; rw [if_neg q, if_pos (by omega)]
    rw [ea]
    refine Ex_iload_n dX11_daring_0 rfl rfl ?_
    refine Ex_if_ne (t := 7) dX11_daring_1 rfl rfl (by omega) (fun c1 => ?_) (fun c1 => absurd c1 (by omega))
    refine Ex_iconst dX11_daring_7 rfl ?_
    refine Ex_iload_n dX11_daring_8 rfl rfl ?_
    refine Ex_iadd dX11_daring_9 rfl ?_
    refine Ex_aload_n dX11_daring_10 rfl rfl ?_
    refine Ex_inv 2 dX11_daring_11 rfl rfl (Or.inl rfl) rfl rfl rfl rfl hp rfl rfl rfl (Ex_post (x5_swims hp hs) ?_)
    rintro _ _ ⟨rfl, e0⟩
    obtain rfl := Eq.symm e0
    refine Ex_if_ne (t := 24) dX11_daring_14 rfl rfl (by omega) (fun c14 => ?_) (fun c14 => absurd c14 (by omega))
    refine Ex_iconst dX11_daring_24 rfl ?_
    refine Ex_goto (t := 35) dX11_daring_25 rfl ?_
    refine Ex_isub dX11_daring_35 rfl ?_
    refine Ex_iret dX11_daring_36 rfl rfl ?_
    exact ⟨rfl, rfl⟩
  · have ea : dv k f t s own oth = 1 + oth - 0 := by unfold dv; rw [if_neg q, if_pos (by omega)]
    rw [ea]
    refine Ex_iload_n dX11_daring_0 rfl rfl ?_
    refine Ex_if_ne (t := 7) dX11_daring_1 rfl rfl (by omega) (fun c1 => ?_) (fun c1 => absurd c1 (by omega))
    refine Ex_iconst dX11_daring_7 rfl ?_
    refine Ex_iload_n dX11_daring_8 rfl rfl ?_
    refine Ex_iadd dX11_daring_9 rfl ?_
    refine Ex_aload_n dX11_daring_10 rfl rfl ?_
    refine Ex_inv 2 dX11_daring_11 rfl rfl (Or.inl rfl) rfl rfl rfl rfl hp rfl rfl rfl (Ex_post (x5_swims hp hs) ?_)
    rintro _ _ ⟨rfl, e0⟩
    obtain rfl := Eq.symm e0
    refine Ex_if_ne (t := 24) dX11_daring_14 rfl rfl (by omega) (fun c14 => absurd c14 (by omega)) (fun c14 => ?_)
    refine Ex_aload_n dX11_daring_17 rfl rfl ?_
    refine Ex_inv 2 dX11_daring_18 rfl rfl (Or.inl rfl) rfl rfl rfl rfl hp rfl rfl rfl (Ex_post (x5_isReady hp ht hs kc) ?_)
    rintro _ _ ⟨rfl, e0⟩
    obtain rfl := Eq.symm e0
    refine Ex_if_eq (t := 28) dX11_daring_21 rfl rfl (by omega) (fun c21 => absurd c21 (by omega)) (fun c21 => ?_)
    refine Ex_iconst dX11_daring_24 rfl ?_
    refine Ex_goto (t := 35) dX11_daring_25 rfl ?_
    refine Ex_isub dX11_daring_35 rfl ?_
    refine Ex_iret dX11_daring_36 rfl rfl ?_
    exact ⟨rfl, rfl⟩
theorem dv_r {k f t s own oth : Int} (hf : 0 ≤ f ∧ f ≤ 9) (ho2 : 0 ≤ oth ∧ oth ≤ 1) : -20 ≤ dv k f t s own oth ∧ dv k f t s own oth ≤ 20 := by
  have := sp_fright_r (k := k) hf
  unfold dv
  repeat' split
  all_goals omega
theorem x11_staysWith {E : am_E} {d : Nat} {h : Hp} {p kr : Nat} {t s c k f own oth : Int}  (hp : h.1 p = some (pcell kr t s c)) (ht : 0 ≤ t ∧ t ≤ 20) (hs : 0 ≤ s ∧ s ≤ 7) (kc : KindAt h kr k f) (ho : 0 ≤ own ∧ own ≤ 1) (ho2 : 0 ≤ oth ∧ oth ≤ 1)  : Ex E (d + 3) mX11_staysWith 0 [.ref p, .int (i32 own), .int (i32 oth)] [] h (fun r1 h1 => r1 = some (.int (i32 (if dst k f t s own oth = true then 1 else 0))) ∧ h1 = h) := by
  have hd1 := dv_r (k := k) (t := t) (s := s) (own := own) (oth := oth) kc.2.2.2 ho2
  have hd2 := dv_r (k := k) (t := t) (s := s) (own := 1 - own) (oth := oth) kc.2.2.2 ho2
  by_cases q : dv k f t s (1 - own) oth ≤ dv k f t s own oth
  · have hb : dst k f t s own oth = true := decide_eq_true q
    rw [if_pos hb]
    refine Ex_aload_n dX11_staysWith_0 rfl rfl ?_
    refine Ex_iload_n dX11_staysWith_1 rfl rfl ?_
    refine Ex_iload_n dX11_staysWith_2 rfl rfl ?_
    refine Ex_stat 0 dX11_staysWith_3 rfl rfl (Or.inl rfl) rfl rfl rfl rfl rfl rfl (Ex_post (x11_daring hp ht hs kc (by omega) ho2) ?_)
    rintro _ _ ⟨rfl, e0⟩
    obtain rfl := Eq.symm e0
    refine Ex_aload_n dX11_staysWith_6 rfl rfl ?_
    refine Ex_iconst dX11_staysWith_7 rfl ?_
    refine Ex_iload_n dX11_staysWith_8 rfl rfl ?_
    refine Ex_isub dX11_staysWith_9 rfl ?_
    refine Ex_iload_n dX11_staysWith_10 rfl rfl ?_
    refine Ex_stat 0 dX11_staysWith_11 rfl rfl (Or.inl rfl) rfl rfl rfl rfl rfl rfl (Ex_post (x11_daring hp ht hs kc (by omega) ho2) ?_)
    rintro _ _ ⟨rfl, e0⟩
    obtain rfl := Eq.symm e0
    refine Ex_icmp_lt (t := 21) dX11_staysWith_14 rfl rfl (by omega) (fun c14 => absurd c14 (by omega)) (fun c14 => ?_)
    refine Ex_iconst dX11_staysWith_17 rfl ?_
    refine Ex_goto (t := 22) dX11_staysWith_18 rfl ?_
    refine Ex_iret dX11_staysWith_22 rfl rfl ?_
    exact ⟨rfl, rfl⟩
  · have hb : ¬ dst k f t s own oth = true := fun z => q (of_decide_eq_true z)
    rw [if_neg hb]
    refine Ex_aload_n dX11_staysWith_0 rfl rfl ?_
    refine Ex_iload_n dX11_staysWith_1 rfl rfl ?_
    refine Ex_iload_n dX11_staysWith_2 rfl rfl ?_
    refine Ex_stat 0 dX11_staysWith_3 rfl rfl (Or.inl rfl) rfl rfl rfl rfl rfl rfl (Ex_post (x11_daring hp ht hs kc (by omega) ho2) ?_)
    rintro _ _ ⟨rfl, e0⟩
    obtain rfl := Eq.symm e0
    refine Ex_aload_n dX11_staysWith_6 rfl rfl ?_
    refine Ex_iconst dX11_staysWith_7 rfl ?_
    refine Ex_iload_n dX11_staysWith_8 rfl rfl ?_
    refine Ex_isub dX11_staysWith_9 rfl ?_
    refine Ex_iload_n dX11_staysWith_10 rfl rfl ?_
    refine Ex_stat 0 dX11_staysWith_11 rfl rfl (Or.inl rfl) rfl rfl rfl rfl rfl rfl (Ex_post (x11_daring hp ht hs kc (by omega) ho2) ?_)
    rintro _ _ ⟨rfl, e0⟩
    obtain rfl := Eq.symm e0
    refine Ex_icmp_lt (t := 21) dX11_staysWith_14 rfl rfl (by omega) (fun c14 => ?_) (fun c14 => absurd c14 (by omega))
    refine Ex_iconst dX11_staysWith_21 rfl ?_
    refine Ex_iret dX11_staysWith_22 rfl rfl ?_
    exact ⟨rfl, rfl⟩
theorem x11_dare_11 {E : am_E} {d : Nat} {h : Hp} {x y n : Nat} {hi m tu : Int} {kr : Nat → Nat} {K F T S C : Nat → Int} {a b : Nat}  (Z : Scr h x hi) (R : RailAt h (x + 10) n m tu kr T S C) (hg : Rng n T S C) (ky : KY h y n kr K F) (hB : E.2 ≤ x) (hy : x + 57 ≤ y) (ha : a < n) (hb : b < n)  : Ex E (d + 4) mX11_dare 24 [.ref x, .int (i32 (a : Int)), .int (i32 (b : Int)), .int (i32 1), .int (i32 1)] [] h (fun r1 h1 => r1 = some (.int (i32 (if dr2 K F T S a b 1 1 then 11 else -4))) ∧ h1 = h) := by
  obtain ⟨⟨bs, z0⟩, z1, ⟨f2, z2⟩, ⟨f3, z3⟩, ⟨f4, z4⟩, ⟨f5, z5⟩, zr0, zr1, zr2, ⟨k5, t5, s5, c5, z55⟩, ⟨k6, t6, s6, c6, z56⟩⟩ := id Z
  obtain ⟨hr, hA, hP, hG, hn6⟩ := id R
  have kk := ky.ok (r := x + 10) (by omega)
  have hga := hg a ha
  have hgb := hg b hb
  have ka := (kk a ha).1
  have kb := (kk b hb).1
  cases hA0 : dst (K a) (F a) (T a) (S a) 1 1
  rotate_left
  cases hB0 : dst (K b) (F b) (T b) (S b) 1 1
  rotate_left
  · have hd : dr2 K F T S a b 1 1 = true := by unfold dr2; rw [hA0, hB0]; rfl
    rw [hd]
    refine Ex_iload dX11_dare_24 rfl rfl ?_
    refine Ex_iconst dX11_dare_26 rfl ?_
    refine Ex_icmp_gt (t := 80) dX11_dare_27 rfl rfl (by omega) (fun c27 => absurd c27 (by omega)) (fun c27 => ?_)
    refine Ex_aload_n dX11_dare_30 rfl rfl ?_
    refine Ex_getf dX11_dare_31 rfl (by first | exact z0 | exact hr | exact hA) rfl rfl rfl ?_
    refine Ex_getf dX11_dare_34 rfl (by first | exact z0 | exact hr | exact hA) rfl rfl rfl ?_
    refine Ex_iload_n dX11_dare_37 rfl rfl ?_
    refine Ex_aald dX11_dare_38 rfl (by first | exact z0 | exact hr | exact hA) (by omega) (by omega) (rarr_get (by omega)) ?_
    refine Ex_iload_n dX11_dare_39 rfl rfl ?_
    refine Ex_iload dX11_dare_40 rfl rfl ?_
    refine Ex_stat 0 dX11_dare_42 rfl rfl (Or.inl rfl) rfl rfl rfl rfl rfl rfl (Ex_post (x11_staysWith (hP a ha) hga.1 hga.2.1 ka (by omega) (by omega)) ?_)
    rintro _ _ ⟨rfl, e0⟩
    obtain rfl := Eq.symm e0
    refine Ex_if_eq (t := 74) dX11_dare_45 rfl rfl (by rw [hA0]; simp) (fun c45 => absurd c45 (by rw [hA0] at c45; simp at c45)) (fun c45 => ?_)
    refine Ex_aload_n dX11_dare_48 rfl rfl ?_
    refine Ex_getf dX11_dare_49 rfl (by first | exact z0 | exact hr | exact hA) rfl rfl rfl ?_
    refine Ex_getf dX11_dare_52 rfl (by first | exact z0 | exact hr | exact hA) rfl rfl rfl ?_
    refine Ex_iload_n dX11_dare_55 rfl rfl ?_
    refine Ex_aald dX11_dare_56 rfl (by first | exact z0 | exact hr | exact hA) (by omega) (by omega) (rarr_get (by omega)) ?_
    refine Ex_iload dX11_dare_57 rfl rfl ?_
    refine Ex_iload_n dX11_dare_59 rfl rfl ?_
    refine Ex_stat 0 dX11_dare_60 rfl rfl (Or.inl rfl) rfl rfl rfl rfl rfl rfl (Ex_post (x11_staysWith (hP b hb) hgb.1 hgb.2.1 kb (by omega) (by omega)) ?_)
    rintro _ _ ⟨rfl, e0⟩
    obtain rfl := Eq.symm e0
    refine Ex_if_eq (t := 74) dX11_dare_63 rfl rfl (by rw [hB0]; simp) (fun c63 => absurd c63 (by rw [hB0] at c63; simp at c63)) (fun c63 => ?_)
    refine Ex_bipush dX11_dare_66 rfl (by decide) ?_
    refine Ex_iload_n dX11_dare_68 rfl rfl ?_
    refine Ex_imul dX11_dare_69 rfl ?_
    refine Ex_iload dX11_dare_70 rfl rfl ?_
    refine Ex_iadd dX11_dare_72 rfl ?_
    refine Ex_iret dX11_dare_73 rfl rfl ?_
    exact ⟨rfl, rfl⟩
  · have hd : dr2 K F T S a b 1 1 = false := by unfold dr2; rw [hA0]; rfl
    rw [hd]
    refine Ex_iload dX11_dare_24 rfl rfl ?_
    refine Ex_iconst dX11_dare_26 rfl ?_
    refine Ex_icmp_gt (t := 80) dX11_dare_27 rfl rfl (by omega) (fun c27 => absurd c27 (by omega)) (fun c27 => ?_)
    refine Ex_aload_n dX11_dare_30 rfl rfl ?_
    refine Ex_getf dX11_dare_31 rfl (by first | exact z0 | exact hr | exact hA) rfl rfl rfl ?_
    refine Ex_getf dX11_dare_34 rfl (by first | exact z0 | exact hr | exact hA) rfl rfl rfl ?_
    refine Ex_iload_n dX11_dare_37 rfl rfl ?_
    refine Ex_aald dX11_dare_38 rfl (by first | exact z0 | exact hr | exact hA) (by omega) (by omega) (rarr_get (by omega)) ?_
    refine Ex_iload_n dX11_dare_39 rfl rfl ?_
    refine Ex_iload dX11_dare_40 rfl rfl ?_
    refine Ex_stat 0 dX11_dare_42 rfl rfl (Or.inl rfl) rfl rfl rfl rfl rfl rfl (Ex_post (x11_staysWith (hP a ha) hga.1 hga.2.1 ka (by omega) (by omega)) ?_)
    rintro _ _ ⟨rfl, e0⟩
    obtain rfl := Eq.symm e0
    refine Ex_if_eq (t := 74) dX11_dare_45 rfl rfl (by rw [hA0]; simp) (fun c45 => ?_) (fun c45 => absurd c45 (by rw [hA0] at c45; simp at c45))
    refine Ex_iinc (L2 := [_, _, _, _, _]) dX11_dare_74 rfl rfl rfl ?_
    refine Ex_goto (t := 24) dX11_dare_77 rfl ?_
    refine Ex_iload dX11_dare_24 rfl rfl ?_
    refine Ex_iconst dX11_dare_26 rfl ?_
    refine Ex_icmp_gt (t := 80) dX11_dare_27 rfl rfl (by omega) (fun c27 => ?_) (fun c27 => absurd c27 (by omega))
    refine Ex_iinc (L2 := [_, _, _, _, _]) dX11_dare_80 rfl rfl rfl ?_
    refine Ex_goto (t := 16) dX11_dare_83 rfl ?_
    refine Ex_iload_n dX11_dare_16 rfl rfl ?_
    refine Ex_iconst dX11_dare_17 rfl ?_
    refine Ex_icmp_gt (t := 86) dX11_dare_18 rfl rfl (by omega) (fun c18 => ?_) (fun c18 => absurd c18 (by omega))
    refine Ex_bipush dX11_dare_86 rfl (by decide) ?_
    refine Ex_iret dX11_dare_88 rfl rfl ?_
    exact ⟨rfl, rfl⟩
  · have hd : dr2 K F T S a b 1 1 = false := by unfold dr2; rw [hA0, hB0]; rfl
    rw [hd]
    refine Ex_iload dX11_dare_24 rfl rfl ?_
    refine Ex_iconst dX11_dare_26 rfl ?_
    refine Ex_icmp_gt (t := 80) dX11_dare_27 rfl rfl (by omega) (fun c27 => absurd c27 (by omega)) (fun c27 => ?_)
    refine Ex_aload_n dX11_dare_30 rfl rfl ?_
    refine Ex_getf dX11_dare_31 rfl (by first | exact z0 | exact hr | exact hA) rfl rfl rfl ?_
    refine Ex_getf dX11_dare_34 rfl (by first | exact z0 | exact hr | exact hA) rfl rfl rfl ?_
    refine Ex_iload_n dX11_dare_37 rfl rfl ?_
    refine Ex_aald dX11_dare_38 rfl (by first | exact z0 | exact hr | exact hA) (by omega) (by omega) (rarr_get (by omega)) ?_
    refine Ex_iload_n dX11_dare_39 rfl rfl ?_
    refine Ex_iload dX11_dare_40 rfl rfl ?_
    refine Ex_stat 0 dX11_dare_42 rfl rfl (Or.inl rfl) rfl rfl rfl rfl rfl rfl (Ex_post (x11_staysWith (hP a ha) hga.1 hga.2.1 ka (by omega) (by omega)) ?_)
    rintro _ _ ⟨rfl, e0⟩
    obtain rfl := Eq.symm e0
    refine Ex_if_eq (t := 74) dX11_dare_45 rfl rfl (by rw [hA0]; simp) (fun c45 => absurd c45 (by rw [hA0] at c45; simp at c45)) (fun c45 => ?_)
    refine Ex_aload_n dX11_dare_48 rfl rfl ?_
    refine Ex_getf dX11_dare_49 rfl (by first | exact z0 | exact hr | exact hA) rfl rfl rfl ?_
    refine Ex_getf dX11_dare_52 rfl (by first | exact z0 | exact hr | exact hA) rfl rfl rfl ?_
    refine Ex_iload_n dX11_dare_55 rfl rfl ?_
    refine Ex_aald dX11_dare_56 rfl (by first | exact z0 | exact hr | exact hA) (by omega) (by omega) (rarr_get (by omega)) ?_
    refine Ex_iload dX11_dare_57 rfl rfl ?_
    refine Ex_iload_n dX11_dare_59 rfl rfl ?_
    refine Ex_stat 0 dX11_dare_60 rfl rfl (Or.inl rfl) rfl rfl rfl rfl rfl rfl (Ex_post (x11_staysWith (hP b hb) hgb.1 hgb.2.1 kb (by omega) (by omega)) ?_)
    rintro _ _ ⟨rfl, e0⟩
    obtain rfl := Eq.symm e0
    refine Ex_if_eq (t := 74) dX11_dare_63 rfl rfl (by rw [hB0]; simp) (fun c63 => ?_) (fun c63 => absurd c63 (by rw [hB0] at c63; simp at c63))
    refine Ex_iinc (L2 := [_, _, _, _, _]) dX11_dare_74 rfl rfl rfl ?_
    refine Ex_goto (t := 24) dX11_dare_77 rfl ?_
    refine Ex_iload dX11_dare_24 rfl rfl ?_
    refine Ex_iconst dX11_dare_26 rfl ?_
    refine Ex_icmp_gt (t := 80) dX11_dare_27 rfl rfl (by omega) (fun c27 => ?_) (fun c27 => absurd c27 (by omega))
    refine Ex_iinc (L2 := [_, _, _, _, _]) dX11_dare_80 rfl rfl rfl ?_
    refine Ex_goto (t := 16) dX11_dare_83 rfl ?_
    refine Ex_iload_n dX11_dare_16 rfl rfl ?_
    refine Ex_iconst dX11_dare_17 rfl ?_
    refine Ex_icmp_gt (t := 86) dX11_dare_18 rfl rfl (by omega) (fun c18 => ?_) (fun c18 => absurd c18 (by omega))
    refine Ex_bipush dX11_dare_86 rfl (by decide) ?_
    refine Ex_iret dX11_dare_88 rfl rfl ?_
    exact ⟨rfl, rfl⟩
theorem x11_dare_10 {E : am_E} {d : Nat} {h : Hp} {x y n : Nat} {hi m tu : Int} {kr : Nat → Nat} {K F T S C : Nat → Int} {a b : Nat}  (Z : Scr h x hi) (R : RailAt h (x + 10) n m tu kr T S C) (hg : Rng n T S C) (ky : KY h y n kr K F) (hB : E.2 ≤ x) (hy : x + 57 ≤ y) (ha : a < n) (hb : b < n)  : Ex E (d + 4) mX11_dare 24 [.ref x, .int (i32 (a : Int)), .int (i32 (b : Int)), .int (i32 1), .int (i32 0)] [] h (fun r1 h1 => r1 = some (.int (i32 (if dr2 K F T S a b 1 0 then 10 else (if dr2 K F T S a b 1 1 then 11 else -4)))) ∧ h1 = h) := by
  obtain ⟨⟨bs, z0⟩, z1, ⟨f2, z2⟩, ⟨f3, z3⟩, ⟨f4, z4⟩, ⟨f5, z5⟩, zr0, zr1, zr2, ⟨k5, t5, s5, c5, z55⟩, ⟨k6, t6, s6, c6, z56⟩⟩ := id Z
  obtain ⟨hr, hA, hP, hG, hn6⟩ := id R
  have kk := ky.ok (r := x + 10) (by omega)
  have hga := hg a ha
  have hgb := hg b hb
  have ka := (kk a ha).1
  have kb := (kk b hb).1
  cases hA0 : dst (K a) (F a) (T a) (S a) 1 0
  rotate_left
  cases hB0 : dst (K b) (F b) (T b) (S b) 0 1
  rotate_left
  · have hd : dr2 K F T S a b 1 0 = true := by unfold dr2; rw [hA0, hB0]; rfl
    rw [hd]
    refine Ex_iload dX11_dare_24 rfl rfl ?_
    refine Ex_iconst dX11_dare_26 rfl ?_
    refine Ex_icmp_gt (t := 80) dX11_dare_27 rfl rfl (by omega) (fun c27 => absurd c27 (by omega)) (fun c27 => ?_)
    refine Ex_aload_n dX11_dare_30 rfl rfl ?_
    refine Ex_getf dX11_dare_31 rfl (by first | exact z0 | exact hr | exact hA) rfl rfl rfl ?_
    refine Ex_getf dX11_dare_34 rfl (by first | exact z0 | exact hr | exact hA) rfl rfl rfl ?_
    refine Ex_iload_n dX11_dare_37 rfl rfl ?_
    refine Ex_aald dX11_dare_38 rfl (by first | exact z0 | exact hr | exact hA) (by omega) (by omega) (rarr_get (by omega)) ?_
    refine Ex_iload_n dX11_dare_39 rfl rfl ?_
    refine Ex_iload dX11_dare_40 rfl rfl ?_
    refine Ex_stat 0 dX11_dare_42 rfl rfl (Or.inl rfl) rfl rfl rfl rfl rfl rfl (Ex_post (x11_staysWith (hP a ha) hga.1 hga.2.1 ka (by omega) (by omega)) ?_)
    rintro _ _ ⟨rfl, e0⟩
    obtain rfl := Eq.symm e0
    refine Ex_if_eq (t := 74) dX11_dare_45 rfl rfl (by rw [hA0]; simp) (fun c45 => absurd c45 (by rw [hA0] at c45; simp at c45)) (fun c45 => ?_)
    refine Ex_aload_n dX11_dare_48 rfl rfl ?_
    refine Ex_getf dX11_dare_49 rfl (by first | exact z0 | exact hr | exact hA) rfl rfl rfl ?_
    refine Ex_getf dX11_dare_52 rfl (by first | exact z0 | exact hr | exact hA) rfl rfl rfl ?_
    refine Ex_iload_n dX11_dare_55 rfl rfl ?_
    refine Ex_aald dX11_dare_56 rfl (by first | exact z0 | exact hr | exact hA) (by omega) (by omega) (rarr_get (by omega)) ?_
    refine Ex_iload dX11_dare_57 rfl rfl ?_
    refine Ex_iload_n dX11_dare_59 rfl rfl ?_
    refine Ex_stat 0 dX11_dare_60 rfl rfl (Or.inl rfl) rfl rfl rfl rfl rfl rfl (Ex_post (x11_staysWith (hP b hb) hgb.1 hgb.2.1 kb (by omega) (by omega)) ?_)
    rintro _ _ ⟨rfl, e0⟩
    obtain rfl := Eq.symm e0
    refine Ex_if_eq (t := 74) dX11_dare_63 rfl rfl (by rw [hB0]; simp) (fun c63 => absurd c63 (by rw [hB0] at c63; simp at c63)) (fun c63 => ?_)
    refine Ex_bipush dX11_dare_66 rfl (by decide) ?_
    refine Ex_iload_n dX11_dare_68 rfl rfl ?_
    refine Ex_imul dX11_dare_69 rfl ?_
    refine Ex_iload dX11_dare_70 rfl rfl ?_
    refine Ex_iadd dX11_dare_72 rfl ?_
    refine Ex_iret dX11_dare_73 rfl rfl ?_
    exact ⟨rfl, rfl⟩
  · have hd : dr2 K F T S a b 1 0 = false := by unfold dr2; rw [hA0]; rfl
    rw [hd]
    refine Ex_iload dX11_dare_24 rfl rfl ?_
    refine Ex_iconst dX11_dare_26 rfl ?_
    refine Ex_icmp_gt (t := 80) dX11_dare_27 rfl rfl (by omega) (fun c27 => absurd c27 (by omega)) (fun c27 => ?_)
    refine Ex_aload_n dX11_dare_30 rfl rfl ?_
    refine Ex_getf dX11_dare_31 rfl (by first | exact z0 | exact hr | exact hA) rfl rfl rfl ?_
    refine Ex_getf dX11_dare_34 rfl (by first | exact z0 | exact hr | exact hA) rfl rfl rfl ?_
    refine Ex_iload_n dX11_dare_37 rfl rfl ?_
    refine Ex_aald dX11_dare_38 rfl (by first | exact z0 | exact hr | exact hA) (by omega) (by omega) (rarr_get (by omega)) ?_
    refine Ex_iload_n dX11_dare_39 rfl rfl ?_
    refine Ex_iload dX11_dare_40 rfl rfl ?_
    refine Ex_stat 0 dX11_dare_42 rfl rfl (Or.inl rfl) rfl rfl rfl rfl rfl rfl (Ex_post (x11_staysWith (hP a ha) hga.1 hga.2.1 ka (by omega) (by omega)) ?_)
    rintro _ _ ⟨rfl, e0⟩
    obtain rfl := Eq.symm e0
    refine Ex_if_eq (t := 74) dX11_dare_45 rfl rfl (by rw [hA0]; simp) (fun c45 => ?_) (fun c45 => absurd c45 (by rw [hA0] at c45; simp at c45))
    refine Ex_iinc (L2 := [_, _, _, _, _]) dX11_dare_74 rfl rfl rfl ?_
    refine Ex_goto (t := 24) dX11_dare_77 rfl ?_
    exact x11_dare_11 Z R hg ky hB hy ha hb
  · have hd : dr2 K F T S a b 1 0 = false := by unfold dr2; rw [hA0, hB0]; rfl
    rw [hd]
    refine Ex_iload dX11_dare_24 rfl rfl ?_
    refine Ex_iconst dX11_dare_26 rfl ?_
    refine Ex_icmp_gt (t := 80) dX11_dare_27 rfl rfl (by omega) (fun c27 => absurd c27 (by omega)) (fun c27 => ?_)
    refine Ex_aload_n dX11_dare_30 rfl rfl ?_
    refine Ex_getf dX11_dare_31 rfl (by first | exact z0 | exact hr | exact hA) rfl rfl rfl ?_
    refine Ex_getf dX11_dare_34 rfl (by first | exact z0 | exact hr | exact hA) rfl rfl rfl ?_
    refine Ex_iload_n dX11_dare_37 rfl rfl ?_
    refine Ex_aald dX11_dare_38 rfl (by first | exact z0 | exact hr | exact hA) (by omega) (by omega) (rarr_get (by omega)) ?_
    refine Ex_iload_n dX11_dare_39 rfl rfl ?_
    refine Ex_iload dX11_dare_40 rfl rfl ?_
    refine Ex_stat 0 dX11_dare_42 rfl rfl (Or.inl rfl) rfl rfl rfl rfl rfl rfl (Ex_post (x11_staysWith (hP a ha) hga.1 hga.2.1 ka (by omega) (by omega)) ?_)
    rintro _ _ ⟨rfl, e0⟩
    obtain rfl := Eq.symm e0
    refine Ex_if_eq (t := 74) dX11_dare_45 rfl rfl (by rw [hA0]; simp) (fun c45 => absurd c45 (by rw [hA0] at c45; simp at c45)) (fun c45 => ?_)
    refine Ex_aload_n dX11_dare_48 rfl rfl ?_
    refine Ex_getf dX11_dare_49 rfl (by first | exact z0 | exact hr | exact hA) rfl rfl rfl ?_
    refine Ex_getf dX11_dare_52 rfl (by first | exact z0 | exact hr | exact hA) rfl rfl rfl ?_
    refine Ex_iload_n dX11_dare_55 rfl rfl ?_
    refine Ex_aald dX11_dare_56 rfl (by first | exact z0 | exact hr | exact hA) (by omega) (by omega) (rarr_get (by omega)) ?_
    refine Ex_iload dX11_dare_57 rfl rfl ?_
    refine Ex_iload_n dX11_dare_59 rfl rfl ?_
    refine Ex_stat 0 dX11_dare_60 rfl rfl (Or.inl rfl) rfl rfl rfl rfl rfl rfl (Ex_post (x11_staysWith (hP b hb) hgb.1 hgb.2.1 kb (by omega) (by omega)) ?_)
    rintro _ _ ⟨rfl, e0⟩
    obtain rfl := Eq.symm e0
    refine Ex_if_eq (t := 74) dX11_dare_63 rfl rfl (by rw [hB0]; simp) (fun c63 => ?_) (fun c63 => absurd c63 (by rw [hB0] at c63; simp at c63))
    refine Ex_iinc (L2 := [_, _, _, _, _]) dX11_dare_74 rfl rfl rfl ?_
    refine Ex_goto (t := 24) dX11_dare_77 rfl ?_
    exact x11_dare_11 Z R hg ky hB hy ha hb
theorem x11_dare_01 {E : am_E} {d : Nat} {h : Hp} {x y n : Nat} {hi m tu : Int} {kr : Nat → Nat} {K F T S C : Nat → Int} {a b : Nat}  (Z : Scr h x hi) (R : RailAt h (x + 10) n m tu kr T S C) (hg : Rng n T S C) (ky : KY h y n kr K F) (hB : E.2 ≤ x) (hy : x + 57 ≤ y) (ha : a < n) (hb : b < n)  : Ex E (d + 4) mX11_dare 24 [.ref x, .int (i32 (a : Int)), .int (i32 (b : Int)), .int (i32 0), .int (i32 1)] [] h (fun r1 h1 => r1 = some (.int (i32 (if dr2 K F T S a b 0 1 then 1 else (if dr2 K F T S a b 1 0 then 10 else (if dr2 K F T S a b 1 1 then 11 else -4))))) ∧ h1 = h) := by
  obtain ⟨⟨bs, z0⟩, z1, ⟨f2, z2⟩, ⟨f3, z3⟩, ⟨f4, z4⟩, ⟨f5, z5⟩, zr0, zr1, zr2, ⟨k5, t5, s5, c5, z55⟩, ⟨k6, t6, s6, c6, z56⟩⟩ := id Z
  obtain ⟨hr, hA, hP, hG, hn6⟩ := id R
  have kk := ky.ok (r := x + 10) (by omega)
  have hga := hg a ha
  have hgb := hg b hb
  have ka := (kk a ha).1
  have kb := (kk b hb).1
  cases hA0 : dst (K a) (F a) (T a) (S a) 0 1
  rotate_left
  cases hB0 : dst (K b) (F b) (T b) (S b) 1 0
  rotate_left
  · have hd : dr2 K F T S a b 0 1 = true := by unfold dr2; rw [hA0, hB0]; rfl
    rw [hd]
    refine Ex_iload dX11_dare_24 rfl rfl ?_
    refine Ex_iconst dX11_dare_26 rfl ?_
    refine Ex_icmp_gt (t := 80) dX11_dare_27 rfl rfl (by omega) (fun c27 => absurd c27 (by omega)) (fun c27 => ?_)
    refine Ex_aload_n dX11_dare_30 rfl rfl ?_
    refine Ex_getf dX11_dare_31 rfl (by first | exact z0 | exact hr | exact hA) rfl rfl rfl ?_
    refine Ex_getf dX11_dare_34 rfl (by first | exact z0 | exact hr | exact hA) rfl rfl rfl ?_
    refine Ex_iload_n dX11_dare_37 rfl rfl ?_
    refine Ex_aald dX11_dare_38 rfl (by first | exact z0 | exact hr | exact hA) (by omega) (by omega) (rarr_get (by omega)) ?_
    refine Ex_iload_n dX11_dare_39 rfl rfl ?_
    refine Ex_iload dX11_dare_40 rfl rfl ?_
    refine Ex_stat 0 dX11_dare_42 rfl rfl (Or.inl rfl) rfl rfl rfl rfl rfl rfl (Ex_post (x11_staysWith (hP a ha) hga.1 hga.2.1 ka (by omega) (by omega)) ?_)
    rintro _ _ ⟨rfl, e0⟩
    obtain rfl := Eq.symm e0
    refine Ex_if_eq (t := 74) dX11_dare_45 rfl rfl (by rw [hA0]; simp) (fun c45 => absurd c45 (by rw [hA0] at c45; simp at c45)) (fun c45 => ?_)
    refine Ex_aload_n dX11_dare_48 rfl rfl ?_
    refine Ex_getf dX11_dare_49 rfl (by first | exact z0 | exact hr | exact hA) rfl rfl rfl ?_
    refine Ex_getf dX11_dare_52 rfl (by first | exact z0 | exact hr | exact hA) rfl rfl rfl ?_
    refine Ex_iload_n dX11_dare_55 rfl rfl ?_
    refine Ex_aald dX11_dare_56 rfl (by first | exact z0 | exact hr | exact hA) (by omega) (by omega) (rarr_get (by omega)) ?_
    refine Ex_iload dX11_dare_57 rfl rfl ?_
    refine Ex_iload_n dX11_dare_59 rfl rfl ?_
    refine Ex_stat 0 dX11_dare_60 rfl rfl (Or.inl rfl) rfl rfl rfl rfl rfl rfl (Ex_post (x11_staysWith (hP b hb) hgb.1 hgb.2.1 kb (by omega) (by omega)) ?_)
    rintro _ _ ⟨rfl, e0⟩
    obtain rfl := Eq.symm e0
    refine Ex_if_eq (t := 74) dX11_dare_63 rfl rfl (by rw [hB0]; simp) (fun c63 => absurd c63 (by rw [hB0] at c63; simp at c63)) (fun c63 => ?_)
    refine Ex_bipush dX11_dare_66 rfl (by decide) ?_
    refine Ex_iload_n dX11_dare_68 rfl rfl ?_
    refine Ex_imul dX11_dare_69 rfl ?_
    refine Ex_iload dX11_dare_70 rfl rfl ?_
    refine Ex_iadd dX11_dare_72 rfl ?_
    refine Ex_iret dX11_dare_73 rfl rfl ?_
    exact ⟨rfl, rfl⟩
  · have hd : dr2 K F T S a b 0 1 = false := by unfold dr2; rw [hA0]; rfl
    rw [hd]
    refine Ex_iload dX11_dare_24 rfl rfl ?_
    refine Ex_iconst dX11_dare_26 rfl ?_
    refine Ex_icmp_gt (t := 80) dX11_dare_27 rfl rfl (by omega) (fun c27 => absurd c27 (by omega)) (fun c27 => ?_)
    refine Ex_aload_n dX11_dare_30 rfl rfl ?_
    refine Ex_getf dX11_dare_31 rfl (by first | exact z0 | exact hr | exact hA) rfl rfl rfl ?_
    refine Ex_getf dX11_dare_34 rfl (by first | exact z0 | exact hr | exact hA) rfl rfl rfl ?_
    refine Ex_iload_n dX11_dare_37 rfl rfl ?_
    refine Ex_aald dX11_dare_38 rfl (by first | exact z0 | exact hr | exact hA) (by omega) (by omega) (rarr_get (by omega)) ?_
    refine Ex_iload_n dX11_dare_39 rfl rfl ?_
    refine Ex_iload dX11_dare_40 rfl rfl ?_
    refine Ex_stat 0 dX11_dare_42 rfl rfl (Or.inl rfl) rfl rfl rfl rfl rfl rfl (Ex_post (x11_staysWith (hP a ha) hga.1 hga.2.1 ka (by omega) (by omega)) ?_)
    rintro _ _ ⟨rfl, e0⟩
    obtain rfl := Eq.symm e0
    refine Ex_if_eq (t := 74) dX11_dare_45 rfl rfl (by rw [hA0]; simp) (fun c45 => ?_) (fun c45 => absurd c45 (by rw [hA0] at c45; simp at c45))
    refine Ex_iinc (L2 := [_, _, _, _, _]) dX11_dare_74 rfl rfl rfl ?_
    refine Ex_goto (t := 24) dX11_dare_77 rfl ?_
    refine Ex_iload dX11_dare_24 rfl rfl ?_
    refine Ex_iconst dX11_dare_26 rfl ?_
    refine Ex_icmp_gt (t := 80) dX11_dare_27 rfl rfl (by omega) (fun c27 => ?_) (fun c27 => absurd c27 (by omega))
    refine Ex_iinc (L2 := [_, _, _, _, _]) dX11_dare_80 rfl rfl rfl ?_
    refine Ex_goto (t := 16) dX11_dare_83 rfl ?_
    refine Ex_iload_n dX11_dare_16 rfl rfl ?_
    refine Ex_iconst dX11_dare_17 rfl ?_
    refine Ex_icmp_gt (t := 86) dX11_dare_18 rfl rfl (by omega) (fun c18 => absurd c18 (by omega)) (fun c18 => ?_)
    refine Ex_iconst dX11_dare_21 rfl ?_
    refine Ex_istore (L2 := [_, _, _, _, _]) dX11_dare_22 rfl rfl rfl ?_
    exact x11_dare_10 Z R hg ky hB hy ha hb
  · have hd : dr2 K F T S a b 0 1 = false := by unfold dr2; rw [hA0, hB0]; rfl
    rw [hd]
    refine Ex_iload dX11_dare_24 rfl rfl ?_
    refine Ex_iconst dX11_dare_26 rfl ?_
    refine Ex_icmp_gt (t := 80) dX11_dare_27 rfl rfl (by omega) (fun c27 => absurd c27 (by omega)) (fun c27 => ?_)
    refine Ex_aload_n dX11_dare_30 rfl rfl ?_
    refine Ex_getf dX11_dare_31 rfl (by first | exact z0 | exact hr | exact hA) rfl rfl rfl ?_
    refine Ex_getf dX11_dare_34 rfl (by first | exact z0 | exact hr | exact hA) rfl rfl rfl ?_
    refine Ex_iload_n dX11_dare_37 rfl rfl ?_
    refine Ex_aald dX11_dare_38 rfl (by first | exact z0 | exact hr | exact hA) (by omega) (by omega) (rarr_get (by omega)) ?_
    refine Ex_iload_n dX11_dare_39 rfl rfl ?_
    refine Ex_iload dX11_dare_40 rfl rfl ?_
    refine Ex_stat 0 dX11_dare_42 rfl rfl (Or.inl rfl) rfl rfl rfl rfl rfl rfl (Ex_post (x11_staysWith (hP a ha) hga.1 hga.2.1 ka (by omega) (by omega)) ?_)
    rintro _ _ ⟨rfl, e0⟩
    obtain rfl := Eq.symm e0
    refine Ex_if_eq (t := 74) dX11_dare_45 rfl rfl (by rw [hA0]; simp) (fun c45 => absurd c45 (by rw [hA0] at c45; simp at c45)) (fun c45 => ?_)
    refine Ex_aload_n dX11_dare_48 rfl rfl ?_
    refine Ex_getf dX11_dare_49 rfl (by first | exact z0 | exact hr | exact hA) rfl rfl rfl ?_
    refine Ex_getf dX11_dare_52 rfl (by first | exact z0 | exact hr | exact hA) rfl rfl rfl ?_
    refine Ex_iload_n dX11_dare_55 rfl rfl ?_
    refine Ex_aald dX11_dare_56 rfl (by first | exact z0 | exact hr | exact hA) (by omega) (by omega) (rarr_get (by omega)) ?_
    refine Ex_iload dX11_dare_57 rfl rfl ?_
    refine Ex_iload_n dX11_dare_59 rfl rfl ?_
    refine Ex_stat 0 dX11_dare_60 rfl rfl (Or.inl rfl) rfl rfl rfl rfl rfl rfl (Ex_post (x11_staysWith (hP b hb) hgb.1 hgb.2.1 kb (by omega) (by omega)) ?_)
    rintro _ _ ⟨rfl, e0⟩
    obtain rfl := Eq.symm e0
    refine Ex_if_eq (t := 74) dX11_dare_63 rfl rfl (by rw [hB0]; simp) (fun c63 => ?_) (fun c63 => absurd c63 (by rw [hB0] at c63; simp at c63))
    refine Ex_iinc (L2 := [_, _, _, _, _]) dX11_dare_74 rfl rfl rfl ?_
    refine Ex_goto (t := 24) dX11_dare_77 rfl ?_
    refine Ex_iload dX11_dare_24 rfl rfl ?_
    refine Ex_iconst dX11_dare_26 rfl ?_
    refine Ex_icmp_gt (t := 80) dX11_dare_27 rfl rfl (by omega) (fun c27 => ?_) (fun c27 => absurd c27 (by omega))
    refine Ex_iinc (L2 := [_, _, _, _, _]) dX11_dare_80 rfl rfl rfl ?_
    refine Ex_goto (t := 16) dX11_dare_83 rfl ?_
    refine Ex_iload_n dX11_dare_16 rfl rfl ?_
    refine Ex_iconst dX11_dare_17 rfl ?_
    refine Ex_icmp_gt (t := 86) dX11_dare_18 rfl rfl (by omega) (fun c18 => absurd c18 (by omega)) (fun c18 => ?_)
    refine Ex_iconst dX11_dare_21 rfl ?_
    refine Ex_istore (L2 := [_, _, _, _, _]) dX11_dare_22 rfl rfl rfl ?_
    exact x11_dare_10 Z R hg ky hB hy ha hb
theorem x11_dare_00 {E : am_E} {d : Nat} {h : Hp} {x y n : Nat} {hi m tu : Int} {kr : Nat → Nat} {K F T S C : Nat → Int} {a b : Nat}  (Z : Scr h x hi) (R : RailAt h (x + 10) n m tu kr T S C) (hg : Rng n T S C) (ky : KY h y n kr K F) (hB : E.2 ≤ x) (hy : x + 57 ≤ y) (ha : a < n) (hb : b < n)  : Ex E (d + 4) mX11_dare 24 [.ref x, .int (i32 (a : Int)), .int (i32 (b : Int)), .int (i32 0), .int (i32 0)] [] h (fun r1 h1 => r1 = some (.int (i32 (if dr2 K F T S a b 0 0 then 0 else (if dr2 K F T S a b 0 1 then 1 else (if dr2 K F T S a b 1 0 then 10 else (if dr2 K F T S a b 1 1 then 11 else -4)))))) ∧ h1 = h) := by
  obtain ⟨⟨bs, z0⟩, z1, ⟨f2, z2⟩, ⟨f3, z3⟩, ⟨f4, z4⟩, ⟨f5, z5⟩, zr0, zr1, zr2, ⟨k5, t5, s5, c5, z55⟩, ⟨k6, t6, s6, c6, z56⟩⟩ := id Z
  obtain ⟨hr, hA, hP, hG, hn6⟩ := id R
  have kk := ky.ok (r := x + 10) (by omega)
  have hga := hg a ha
  have hgb := hg b hb
  have ka := (kk a ha).1
  have kb := (kk b hb).1
  cases hA0 : dst (K a) (F a) (T a) (S a) 0 0
  rotate_left
  cases hB0 : dst (K b) (F b) (T b) (S b) 0 0
  rotate_left
  · have hd : dr2 K F T S a b 0 0 = true := by unfold dr2; rw [hA0, hB0]; rfl
    rw [hd]
    refine Ex_iload dX11_dare_24 rfl rfl ?_
    refine Ex_iconst dX11_dare_26 rfl ?_
    refine Ex_icmp_gt (t := 80) dX11_dare_27 rfl rfl (by omega) (fun c27 => absurd c27 (by omega)) (fun c27 => ?_)
    refine Ex_aload_n dX11_dare_30 rfl rfl ?_
    refine Ex_getf dX11_dare_31 rfl (by first | exact z0 | exact hr | exact hA) rfl rfl rfl ?_
    refine Ex_getf dX11_dare_34 rfl (by first | exact z0 | exact hr | exact hA) rfl rfl rfl ?_
    refine Ex_iload_n dX11_dare_37 rfl rfl ?_
    refine Ex_aald dX11_dare_38 rfl (by first | exact z0 | exact hr | exact hA) (by omega) (by omega) (rarr_get (by omega)) ?_
    refine Ex_iload_n dX11_dare_39 rfl rfl ?_
    refine Ex_iload dX11_dare_40 rfl rfl ?_
    refine Ex_stat 0 dX11_dare_42 rfl rfl (Or.inl rfl) rfl rfl rfl rfl rfl rfl (Ex_post (x11_staysWith (hP a ha) hga.1 hga.2.1 ka (by omega) (by omega)) ?_)
    rintro _ _ ⟨rfl, e0⟩
    obtain rfl := Eq.symm e0
    refine Ex_if_eq (t := 74) dX11_dare_45 rfl rfl (by rw [hA0]; simp) (fun c45 => absurd c45 (by rw [hA0] at c45; simp at c45)) (fun c45 => ?_)
    refine Ex_aload_n dX11_dare_48 rfl rfl ?_
    refine Ex_getf dX11_dare_49 rfl (by first | exact z0 | exact hr | exact hA) rfl rfl rfl ?_
    refine Ex_getf dX11_dare_52 rfl (by first | exact z0 | exact hr | exact hA) rfl rfl rfl ?_
    refine Ex_iload_n dX11_dare_55 rfl rfl ?_
    refine Ex_aald dX11_dare_56 rfl (by first | exact z0 | exact hr | exact hA) (by omega) (by omega) (rarr_get (by omega)) ?_
    refine Ex_iload dX11_dare_57 rfl rfl ?_
    refine Ex_iload_n dX11_dare_59 rfl rfl ?_
    refine Ex_stat 0 dX11_dare_60 rfl rfl (Or.inl rfl) rfl rfl rfl rfl rfl rfl (Ex_post (x11_staysWith (hP b hb) hgb.1 hgb.2.1 kb (by omega) (by omega)) ?_)
    rintro _ _ ⟨rfl, e0⟩
    obtain rfl := Eq.symm e0
    refine Ex_if_eq (t := 74) dX11_dare_63 rfl rfl (by rw [hB0]; simp) (fun c63 => absurd c63 (by rw [hB0] at c63; simp at c63)) (fun c63 => ?_)
    refine Ex_bipush dX11_dare_66 rfl (by decide) ?_
    refine Ex_iload_n dX11_dare_68 rfl rfl ?_
    refine Ex_imul dX11_dare_69 rfl ?_
    refine Ex_iload dX11_dare_70 rfl rfl ?_
    refine Ex_iadd dX11_dare_72 rfl ?_
    refine Ex_iret dX11_dare_73 rfl rfl ?_
    exact ⟨rfl, rfl⟩
  · have hd : dr2 K F T S a b 0 0 = false := by unfold dr2; rw [hA0]; rfl
    rw [hd]
    refine Ex_iload dX11_dare_24 rfl rfl ?_
    refine Ex_iconst dX11_dare_26 rfl ?_
    refine Ex_icmp_gt (t := 80) dX11_dare_27 rfl rfl (by omega) (fun c27 => absurd c27 (by omega)) (fun c27 => ?_)
    refine Ex_aload_n dX11_dare_30 rfl rfl ?_
    refine Ex_getf dX11_dare_31 rfl (by first | exact z0 | exact hr | exact hA) rfl rfl rfl ?_
    refine Ex_getf dX11_dare_34 rfl (by first | exact z0 | exact hr | exact hA) rfl rfl rfl ?_
    refine Ex_iload_n dX11_dare_37 rfl rfl ?_
    refine Ex_aald dX11_dare_38 rfl (by first | exact z0 | exact hr | exact hA) (by omega) (by omega) (rarr_get (by omega)) ?_
    refine Ex_iload_n dX11_dare_39 rfl rfl ?_
    refine Ex_iload dX11_dare_40 rfl rfl ?_
    refine Ex_stat 0 dX11_dare_42 rfl rfl (Or.inl rfl) rfl rfl rfl rfl rfl rfl (Ex_post (x11_staysWith (hP a ha) hga.1 hga.2.1 ka (by omega) (by omega)) ?_)
    rintro _ _ ⟨rfl, e0⟩
    obtain rfl := Eq.symm e0
    refine Ex_if_eq (t := 74) dX11_dare_45 rfl rfl (by rw [hA0]; simp) (fun c45 => ?_) (fun c45 => absurd c45 (by rw [hA0] at c45; simp at c45))
    refine Ex_iinc (L2 := [_, _, _, _, _]) dX11_dare_74 rfl rfl rfl ?_
    refine Ex_goto (t := 24) dX11_dare_77 rfl ?_
    exact x11_dare_01 Z R hg ky hB hy ha hb
  · have hd : dr2 K F T S a b 0 0 = false := by unfold dr2; rw [hA0, hB0]; rfl
    rw [hd]
    refine Ex_iload dX11_dare_24 rfl rfl ?_
    refine Ex_iconst dX11_dare_26 rfl ?_
    refine Ex_icmp_gt (t := 80) dX11_dare_27 rfl rfl (by omega) (fun c27 => absurd c27 (by omega)) (fun c27 => ?_)
    refine Ex_aload_n dX11_dare_30 rfl rfl ?_
    refine Ex_getf dX11_dare_31 rfl (by first | exact z0 | exact hr | exact hA) rfl rfl rfl ?_
    refine Ex_getf dX11_dare_34 rfl (by first | exact z0 | exact hr | exact hA) rfl rfl rfl ?_
    refine Ex_iload_n dX11_dare_37 rfl rfl ?_
    refine Ex_aald dX11_dare_38 rfl (by first | exact z0 | exact hr | exact hA) (by omega) (by omega) (rarr_get (by omega)) ?_
    refine Ex_iload_n dX11_dare_39 rfl rfl ?_
    refine Ex_iload dX11_dare_40 rfl rfl ?_
    refine Ex_stat 0 dX11_dare_42 rfl rfl (Or.inl rfl) rfl rfl rfl rfl rfl rfl (Ex_post (x11_staysWith (hP a ha) hga.1 hga.2.1 ka (by omega) (by omega)) ?_)
    rintro _ _ ⟨rfl, e0⟩
    obtain rfl := Eq.symm e0
    refine Ex_if_eq (t := 74) dX11_dare_45 rfl rfl (by rw [hA0]; simp) (fun c45 => absurd c45 (by rw [hA0] at c45; simp at c45)) (fun c45 => ?_)
    refine Ex_aload_n dX11_dare_48 rfl rfl ?_
    refine Ex_getf dX11_dare_49 rfl (by first | exact z0 | exact hr | exact hA) rfl rfl rfl ?_
    refine Ex_getf dX11_dare_52 rfl (by first | exact z0 | exact hr | exact hA) rfl rfl rfl ?_
    refine Ex_iload_n dX11_dare_55 rfl rfl ?_
    refine Ex_aald dX11_dare_56 rfl (by first | exact z0 | exact hr | exact hA) (by omega) (by omega) (rarr_get (by omega)) ?_
    refine Ex_iload dX11_dare_57 rfl rfl ?_
    refine Ex_iload_n dX11_dare_59 rfl rfl ?_
    refine Ex_stat 0 dX11_dare_60 rfl rfl (Or.inl rfl) rfl rfl rfl rfl rfl rfl (Ex_post (x11_staysWith (hP b hb) hgb.1 hgb.2.1 kb (by omega) (by omega)) ?_)
    rintro _ _ ⟨rfl, e0⟩
    obtain rfl := Eq.symm e0
    refine Ex_if_eq (t := 74) dX11_dare_63 rfl rfl (by rw [hB0]; simp) (fun c63 => ?_) (fun c63 => absurd c63 (by rw [hB0] at c63; simp at c63))
    refine Ex_iinc (L2 := [_, _, _, _, _]) dX11_dare_74 rfl rfl rfl ?_
    refine Ex_goto (t := 24) dX11_dare_77 rfl ?_
    exact x11_dare_01 Z R hg ky hB hy ha hb
theorem x11_dare {E : am_E} {d : Nat} {h : Hp} {x y n : Nat} {hi m tu : Int} {kr : Nat → Nat} {K F T S C : Nat → Int} {a b : Int}  (Z : Scr h x hi) (R : RailAt h (x + 10) n m tu kr T S C) (hg : Rng n T S C) (ky : KY h y n kr K F) (hB : E.2 ≤ x) (hy : x + 57 ≤ y) (ha : (-2147483648 ≤ a ∧ a ≤ 2147483647)) (hb : (-2147483648 ≤ b ∧ b ≤ 2147483647))  : Ex E (d + 4) mX11_dare 0 [.ref x, .int (i32 a), .int (i32 b), .retAddr 0, .retAddr 0] [] h (fun r1 h1 => r1 = some (.int (i32 (an_dare n K F T S a b))) ∧ h1 = h) := by
  obtain ⟨⟨bs, z0⟩, z1, ⟨f2, z2⟩, ⟨f3, z3⟩, ⟨f4, z4⟩, ⟨f5, z5⟩, zr0, zr1, zr2, ⟨k5, t5, s5, c5, z55⟩, ⟨k6, t6, s6, c6, z56⟩⟩ := id Z
  obtain ⟨hr, hA, hP, hG, hn6⟩ := id R
  have kk := ky.ok (r := x + 10) (by omega)
  by_cases q : (0 ≤ a ∧ a < (n : Int)) ∧ (0 ≤ b ∧ b < (n : Int)) ∧ a ≠ b
  · obtain ⟨a, rfl⟩ := Int.eq_ofNat_of_zero_le q.1.1
    obtain ⟨b, rfl⟩ := Int.eq_ofNat_of_zero_le q.2.1.1
    have ea : an_dare n K F T S (a : Int) (b : Int) = (if dr2 K F T S a b 0 0 then 0 else (if dr2 K F T S a b 0 1 then 1 else (if dr2 K F T S a b 1 0 then 10 else (if dr2 K F T S a b 1 1 then 11 else -4)))) := by unfold an_dare; exact if_pos q
    rw [ea]
    refine Ex_aload_n dX11_dare_0 rfl rfl ?_
    refine Ex_getf dX11_dare_1 rfl (by first | exact z0 | exact hr) rfl rfl rfl ?_
    refine Ex_iload_n dX11_dare_4 rfl rfl ?_
    refine Ex_iload_n dX11_dare_5 rfl rfl ?_
    refine Ex_inv 2 dX11_dare_6 rfl rfl (Or.inl rfl) rfl rfl rfl rfl hr rfl rfl rfl (Ex_post (x7_hasTwo R (by omega) (by omega)) ?_)
    rintro _ _ ⟨rfl, e0⟩
    obtain rfl := Eq.symm e0
    refine Ex_if_ne (t := 14) dX11_dare_9 rfl rfl (by first | (rw [if_pos q]; omega) | (rw [if_neg q]; omega)) (fun c9 => ?_) (fun c9 => absurd c9 (by first | (rw [if_pos q] at c9; omega) | (rw [if_neg q] at c9; omega)))
    refine Ex_iconst dX11_dare_14 rfl ?_
    refine Ex_istore_n (L2 := [_, _, _, _, _]) dX11_dare_15 rfl rfl rfl ?_
    refine Ex_iload_n dX11_dare_16 rfl rfl ?_
    refine Ex_iconst dX11_dare_17 rfl ?_
    refine Ex_icmp_gt (t := 86) dX11_dare_18 rfl rfl (by omega) (fun c18 => absurd c18 (by omega)) (fun c18 => ?_)
    refine Ex_iconst dX11_dare_21 rfl ?_
    refine Ex_istore (L2 := [_, _, _, _, _]) dX11_dare_22 rfl rfl rfl ?_
    exact x11_dare_00 Z R hg ky hB hy (by omega) (by omega)
  · refine Ex_aload_n dX11_dare_0 rfl rfl ?_
    refine Ex_getf dX11_dare_1 rfl (by first | exact z0 | exact hr) rfl rfl rfl ?_
    refine Ex_iload_n dX11_dare_4 rfl rfl ?_
    refine Ex_iload_n dX11_dare_5 rfl rfl ?_
    refine Ex_inv 2 dX11_dare_6 rfl rfl (Or.inl rfl) rfl rfl rfl rfl hr rfl rfl rfl (Ex_post (x7_hasTwo R (by omega) (by omega)) ?_)
    rintro _ _ ⟨rfl, e0⟩
    obtain rfl := Eq.symm e0
    refine Ex_if_ne (t := 14) dX11_dare_9 rfl rfl (by first | (rw [if_pos q]; omega) | (rw [if_neg q]; omega)) (fun c9 => absurd c9 (by first | (rw [if_pos q] at c9; omega) | (rw [if_neg q] at c9; omega))) (fun c9 => ?_)
    refine Ex_iconst dX11_dare_12 rfl ?_
    refine Ex_iret dX11_dare_13 rfl rfl ?_
    exact ⟨ri (by unfold an_dare; rw [if_neg q]), rfl⟩
theorem x11_coldest_l {E : am_E} {d : Nat} {h : Hp} {x y n : Nat} {hi m tu : Int} {kr : Nat → Nat} {K F T S C : Nat → Int} {c : Nat} {v : Int}  (Z : Scr h x hi) (R : RailAt h (x + 10) n m tu kr T S C) (hg : Rng n T S C) (ky : KY h y n kr K F) (hB : E.2 ≤ x) (hy : x + 57 ≤ y) (hc : c < n) (hv : 0 ≤ v ∧ v ≤ 60)  : ∀ (k : Nat) (o : Nat) (a : Int) (v5 : Value), o + k = n → 0 ≤ a ∧ a ≤ o → Ex E (d + 2) mX11_coldest 28 [.ref x, .int (i32 (c : Int)), .int (i32 v), .int (i32 a), .int (i32 (o : Int)), v5] [] h (fun r1 h1 => r1 = some (.int (i32 (a + sm (cdB K F S C c v) o k))) ∧ h1 = h) := by
  obtain ⟨⟨bs, z0⟩, z1, ⟨f2, z2⟩, ⟨f3, z3⟩, ⟨f4, z4⟩, ⟨f5, z5⟩, zr0, zr1, zr2, ⟨k5, t5, s5, c5, z55⟩, ⟨k6, t6, s6, c6, z56⟩⟩ := id Z
  obtain ⟨hr, hA, hP, hG, hn6⟩ := id R
  have kk := ky.ok (r := x + 10) (by omega)
  intro k
  induction k with
  | zero =>
    intro o a v5 hk ha
    refine Ex_iload dX11_coldest_28 rfl rfl ?_
    refine Ex_aload_n dX11_coldest_30 rfl rfl ?_
    refine Ex_getf dX11_coldest_31 rfl (by first | exact z0 | exact z1 | exact hr | exact hA | exact hP _ (by omega) | exact z2 | exact z3 | exact z4 | exact z5 | exact (kk _ (by omega)).1.1 | exact z55 | exact z56) rfl rfl rfl ?_
    refine Ex_getf dX11_coldest_34 rfl (by first | exact z0 | exact z1 | exact hr | exact hA | exact hP _ (by omega) | exact z2 | exact z3 | exact z4 | exact z5 | exact (kk _ (by omega)).1.1 | exact z55 | exact z56) rfl rfl rfl ?_
    refine Ex_icmp_ge (t := 98) dX11_coldest_37 rfl rfl (by omega) (fun c37 => ?_) (fun c37 => absurd c37 (by omega))
    refine Ex_iload_n dX11_coldest_98 rfl rfl ?_
    refine Ex_iret dX11_coldest_99 rfl rfl ?_
    exact ⟨ri (by unfold sm; omega), rfl⟩
  | succ k ih =>
    intro o a v5 hk ha
    have hgo := hg o (by omega)
    have kc := (kk o (by omega)).1
    have hbr := sp_bears_r (k := K o) kc.2.2.2
    by_cases p : o ≠ c ∧ S o < 7 ∧ sp_bears (K o) (F o) < min 20 (C o + v)
    · have es : sm (cdB K F S C c v) o (k + 1) = 1 + sm (cdB K F S C c v) (o + 1) k := by show cdB K F S C c v o + _ = _; rw [show cdB K F S C c v o = 1 from if_pos p]
      rw [es]
      refine Ex_iload dX11_coldest_28 rfl rfl ?_
      refine Ex_aload_n dX11_coldest_30 rfl rfl ?_
      refine Ex_getf dX11_coldest_31 rfl (by first | exact z0 | exact z1 | exact hr | exact hA | exact hP _ (by omega) | exact z2 | exact z3 | exact z4 | exact z5 | exact (kk _ (by omega)).1.1 | exact z55 | exact z56) rfl rfl rfl ?_
      refine Ex_getf dX11_coldest_34 rfl (by first | exact z0 | exact z1 | exact hr | exact hA | exact hP _ (by omega) | exact z2 | exact z3 | exact z4 | exact z5 | exact (kk _ (by omega)).1.1 | exact z55 | exact z56) rfl rfl rfl ?_
      refine Ex_icmp_ge (t := 98) dX11_coldest_37 rfl rfl (by omega) (fun c37 => absurd c37 (by omega)) (fun c37 => ?_)
      refine Ex_aload_n dX11_coldest_40 rfl rfl ?_
      refine Ex_getf dX11_coldest_41 rfl (by first | exact z0 | exact z1 | exact hr | exact hA | exact hP _ (by omega) | exact z2 | exact z3 | exact z4 | exact z5 | exact (kk _ (by omega)).1.1 | exact z55 | exact z56) rfl rfl rfl ?_
      refine Ex_getf dX11_coldest_44 rfl (by first | exact z0 | exact z1 | exact hr | exact hA | exact hP _ (by omega) | exact z2 | exact z3 | exact z4 | exact z5 | exact (kk _ (by omega)).1.1 | exact z55 | exact z56) rfl rfl rfl ?_
      refine Ex_iload dX11_coldest_47 rfl rfl ?_
      refine Ex_aald dX11_coldest_49 rfl (by first | exact z0 | exact z1 | exact hr | exact hA | exact hP _ (by omega) | exact z2 | exact z3 | exact z4 | exact z5 | exact (kk _ (by omega)).1.1 | exact z55 | exact z56) (by omega) (by omega) (rarr_get (by omega)) ?_
      refine Ex_astore (L2 := [_, _, _, _, _, _]) dX11_coldest_50 rfl rfl rfl ?_
      refine Ex_iload dX11_coldest_52 rfl rfl ?_
      refine Ex_iload_n dX11_coldest_54 rfl rfl ?_
      refine Ex_icmp_eq (t := 92) dX11_coldest_55 rfl rfl (by omega) (fun c55 => absurd c55 (by omega)) (fun c55 => ?_)
      refine Ex_aload dX11_coldest_58 rfl rfl ?_
      refine Ex_inv 2 dX11_coldest_60 rfl rfl (Or.inl rfl) rfl rfl rfl rfl (hP o (by omega)) rfl rfl rfl (Ex_post (x5_swims (hP o (by omega)) hgo.2.1) ?_)
      rintro _ _ ⟨rfl, e0⟩
      obtain rfl := Eq.symm e0
      refine Ex_if_ne (t := 92) dX11_coldest_63 rfl rfl (by omega) (fun c63 => absurd c63 (by omega)) (fun c63 => ?_)
      refine Ex_bipush dX11_coldest_66 rfl (by decide) ?_
      refine Ex_aload dX11_coldest_68 rfl rfl ?_
      refine Ex_getf dX11_coldest_70 rfl (by first | exact z0 | exact z1 | exact hr | exact hA | exact hP _ (by omega) | exact z2 | exact z3 | exact z4 | exact z5 | exact (kk _ (by omega)).1.1 | exact z55 | exact z56) rfl rfl rfl ?_
      refine Ex_iload_n dX11_coldest_73 rfl rfl ?_
      refine Ex_iadd dX11_coldest_74 rfl ?_
      refine Ex_min dX11_coldest_75 rfl rfl rfl (by omega) ?_
      refine Ex_aload dX11_coldest_78 rfl rfl ?_
      refine Ex_getf dX11_coldest_80 rfl (by first | exact z0 | exact z1 | exact hr | exact hA | exact hP _ (by omega) | exact z2 | exact z3 | exact z4 | exact z5 | exact (kk _ (by omega)).1.1 | exact z55 | exact z56) rfl rfl rfl ?_
      refine Ex_getf dX11_coldest_83 rfl (by first | exact z0 | exact z1 | exact hr | exact hA | exact hP _ (by omega) | exact z2 | exact z3 | exact z4 | exact z5 | exact (kk _ (by omega)).1.1 | exact z55 | exact z56) rfl (ktag_in _) rfl ?_
      refine Ex_icmp_le (t := 92) dX11_coldest_86 rfl rfl (by omega) (fun c86 => absurd c86 (by omega)) (fun c86 => ?_)
      refine Ex_iinc (L2 := [_, _, _, _, _, _]) dX11_coldest_89 rfl rfl rfl ?_
      refine Ex_iinc (L2 := [_, _, _, _, _, _]) dX11_coldest_92 rfl rfl rfl ?_
      refine Ex_goto (t := 28) dX11_coldest_95 rfl ?_
      refine Ex_post (ih (o + 1) _ _ (by omega) ⟨by omega, by omega⟩) ?_
      rintro _ _ ⟨rfl, rfl⟩
      exact ⟨ri (by omega), rfl⟩
    · have es : sm (cdB K F S C c v) o (k + 1) = 0 + sm (cdB K F S C c v) (o + 1) k := by show cdB K F S C c v o + _ = _; rw [show cdB K F S C c v o = 0 from if_neg p]
      rw [es]
      refine Ex_iload dX11_coldest_28 rfl rfl ?_
      refine Ex_aload_n dX11_coldest_30 rfl rfl ?_
      refine Ex_getf dX11_coldest_31 rfl (by first | exact z0 | exact z1 | exact hr | exact hA | exact hP _ (by omega) | exact z2 | exact z3 | exact z4 | exact z5 | exact (kk _ (by omega)).1.1 | exact z55 | exact z56) rfl rfl rfl ?_
      refine Ex_getf dX11_coldest_34 rfl (by first | exact z0 | exact z1 | exact hr | exact hA | exact hP _ (by omega) | exact z2 | exact z3 | exact z4 | exact z5 | exact (kk _ (by omega)).1.1 | exact z55 | exact z56) rfl rfl rfl ?_
      refine Ex_icmp_ge (t := 98) dX11_coldest_37 rfl rfl (by omega) (fun c37 => absurd c37 (by omega)) (fun c37 => ?_)
      refine Ex_aload_n dX11_coldest_40 rfl rfl ?_
      refine Ex_getf dX11_coldest_41 rfl (by first | exact z0 | exact z1 | exact hr | exact hA | exact hP _ (by omega) | exact z2 | exact z3 | exact z4 | exact z5 | exact (kk _ (by omega)).1.1 | exact z55 | exact z56) rfl rfl rfl ?_
      refine Ex_getf dX11_coldest_44 rfl (by first | exact z0 | exact z1 | exact hr | exact hA | exact hP _ (by omega) | exact z2 | exact z3 | exact z4 | exact z5 | exact (kk _ (by omega)).1.1 | exact z55 | exact z56) rfl rfl rfl ?_
      refine Ex_iload dX11_coldest_47 rfl rfl ?_
      refine Ex_aald dX11_coldest_49 rfl (by first | exact z0 | exact z1 | exact hr | exact hA | exact hP _ (by omega) | exact z2 | exact z3 | exact z4 | exact z5 | exact (kk _ (by omega)).1.1 | exact z55 | exact z56) (by omega) (by omega) (rarr_get (by omega)) ?_
      refine Ex_astore (L2 := [_, _, _, _, _, _]) dX11_coldest_50 rfl rfl rfl ?_
      refine Ex_iload dX11_coldest_52 rfl rfl ?_
      refine Ex_iload_n dX11_coldest_54 rfl rfl ?_
      refine Ex_icmp_eq (t := 92) dX11_coldest_55 rfl rfl (by omega) (fun c55 => ?_) (fun c55 => ?_)
      · refine Ex_iinc (L2 := [_, _, _, _, _, _]) dX11_coldest_92 rfl rfl rfl ?_
        refine Ex_goto (t := 28) dX11_coldest_95 rfl ?_
        refine Ex_post (ih (o + 1) _ _ (by omega) ⟨by omega, by omega⟩) ?_
        rintro _ _ ⟨rfl, rfl⟩
        exact ⟨ri (by omega), rfl⟩
      · refine Ex_aload dX11_coldest_58 rfl rfl ?_
        refine Ex_inv 2 dX11_coldest_60 rfl rfl (Or.inl rfl) rfl rfl rfl rfl (hP o (by omega)) rfl rfl rfl (Ex_post (x5_swims (hP o (by omega)) hgo.2.1) ?_)
        rintro _ _ ⟨rfl, e0⟩
        obtain rfl := Eq.symm e0
        refine Ex_if_ne (t := 92) dX11_coldest_63 rfl rfl (by omega) (fun c63 => ?_) (fun c63 => ?_)
        · refine Ex_iinc (L2 := [_, _, _, _, _, _]) dX11_coldest_92 rfl rfl rfl ?_
          refine Ex_goto (t := 28) dX11_coldest_95 rfl ?_
          refine Ex_post (ih (o + 1) _ _ (by omega) ⟨by omega, by omega⟩) ?_
          rintro _ _ ⟨rfl, rfl⟩
          exact ⟨ri (by omega), rfl⟩
        · refine Ex_bipush dX11_coldest_66 rfl (by decide) ?_
          refine Ex_aload dX11_coldest_68 rfl rfl ?_
          refine Ex_getf dX11_coldest_70 rfl (by first | exact z0 | exact z1 | exact hr | exact hA | exact hP _ (by omega) | exact z2 | exact z3 | exact z4 | exact z5 | exact (kk _ (by omega)).1.1 | exact z55 | exact z56) rfl rfl rfl ?_
          refine Ex_iload_n dX11_coldest_73 rfl rfl ?_
          refine Ex_iadd dX11_coldest_74 rfl ?_
          refine Ex_min dX11_coldest_75 rfl rfl rfl (by omega) ?_
          refine Ex_aload dX11_coldest_78 rfl rfl ?_
          refine Ex_getf dX11_coldest_80 rfl (by first | exact z0 | exact z1 | exact hr | exact hA | exact hP _ (by omega) | exact z2 | exact z3 | exact z4 | exact z5 | exact (kk _ (by omega)).1.1 | exact z55 | exact z56) rfl rfl rfl ?_
          refine Ex_getf dX11_coldest_83 rfl (by first | exact z0 | exact z1 | exact hr | exact hA | exact hP _ (by omega) | exact z2 | exact z3 | exact z4 | exact z5 | exact (kk _ (by omega)).1.1 | exact z55 | exact z56) rfl (ktag_in _) rfl ?_
          refine Ex_icmp_le (t := 92) dX11_coldest_86 rfl rfl (by omega) (fun c86 => ?_) (fun c86 => ?_)
          · refine Ex_iinc (L2 := [_, _, _, _, _, _]) dX11_coldest_92 rfl rfl rfl ?_
            refine Ex_goto (t := 28) dX11_coldest_95 rfl ?_
            refine Ex_post (ih (o + 1) _ _ (by omega) ⟨by omega, by omega⟩) ?_
            rintro _ _ ⟨rfl, rfl⟩
            exact ⟨ri (by omega), rfl⟩
          · exfalso
            exact p ⟨by omega, by omega, by omega⟩
theorem x11_coldest {E : am_E} {d : Nat} {h : Hp} {x y n : Nat} {hi m tu : Int} {kr : Nat → Nat} {K F T S C : Nat → Int} {c v : Int}  (Z : Scr h x hi) (R : RailAt h (x + 10) n m tu kr T S C) (hg : Rng n T S C) (ky : KY h y n kr K F) (hB : E.2 ≤ x) (hy : x + 57 ≤ y) (hc : (-2147483648 ≤ c ∧ c ≤ 2147483647)) (hv : (-2147483648 ≤ v ∧ v ≤ 2147483647))  : Ex E (d + 2) mX11_coldest 0 [.ref x, .int (i32 c), .int (i32 v), .retAddr 0, .retAddr 0, .retAddr 0] [] h (fun r1 h1 => r1 = some (.int (i32 (an_coldest n K F S C c v))) ∧ h1 = h) := by
  obtain ⟨⟨bs, z0⟩, z1, ⟨f2, z2⟩, ⟨f3, z3⟩, ⟨f4, z4⟩, ⟨f5, z5⟩, zr0, zr1, zr2, ⟨k5, t5, s5, c5, z55⟩, ⟨k6, t6, s6, c6, z56⟩⟩ := id Z
  obtain ⟨hr, hA, hP, hG, hn6⟩ := id R
  have kk := ky.ok (r := x + 10) (by omega)
  by_cases q : (0 ≤ c ∧ c < (n : Int)) ∧ (0 ≤ v ∧ v ≤ 60)
  · obtain ⟨c, rfl⟩ := Int.eq_ofNat_of_zero_le (show 0 ≤ c by omega)
    have hcn : c < n := by omega
    have hgc := hg c hcn
    have kc := (kk c hcn).1
    have ea : an_coldest n K F S C (c : Int) v = sm (cdB K F S C c v) 0 n := by unfold an_coldest; exact if_pos q
    rw [ea]
    refine Ex_aload_n dX11_coldest_0 rfl rfl ?_
    refine Ex_getf dX11_coldest_1 rfl (by first | exact z0 | exact hr) rfl rfl rfl ?_
    refine Ex_iload_n dX11_coldest_4 rfl rfl ?_
    refine Ex_inv 2 dX11_coldest_5 rfl rfl (Or.inl rfl) rfl rfl rfl rfl hr rfl rfl rfl (Ex_post (x7_has R (by omega)) ?_)
    rintro _ _ ⟨rfl, e0⟩
    obtain rfl := Eq.symm e0
    refine Ex_if_eq (t := 21) dX11_coldest_8 rfl rfl (by omega) (fun c8 => absurd c8 (by omega)) (fun c8 => ?_)
    refine Ex_iload_n dX11_coldest_11 rfl rfl ?_
    refine Ex_iconst dX11_coldest_12 rfl ?_
    refine Ex_bipush dX11_coldest_13 rfl (by decide) ?_
    refine Ex_stat 0 dX11_coldest_15 rfl rfl (Or.inl rfl) rfl rfl rfl rfl rfl rfl (Ex_post (x11_within (by omega)) ?_)
    rintro _ _ ⟨rfl, e0⟩
    obtain rfl := Eq.symm e0
    refine Ex_if_ne (t := 23) dX11_coldest_18 rfl rfl (by omega) (fun c18 => ?_) (fun c18 => absurd c18 (by omega))
    refine Ex_iconst dX11_coldest_23 rfl ?_
    refine Ex_istore_n (L2 := [_, _, _, _, _, _]) dX11_coldest_24 rfl rfl rfl ?_
    refine Ex_iconst dX11_coldest_25 rfl ?_
    refine Ex_istore (L2 := [_, _, _, _, _, _]) dX11_coldest_26 rfl rfl rfl ?_
    refine Ex_post (x11_coldest_l Z R hg ky hB hy hcn q.2 n 0 0 _ (by omega) (by omega)) ?_
    rintro _ _ ⟨rfl, rfl⟩
    exact ⟨ri (by omega), rfl⟩
  · refine Ex_aload_n dX11_coldest_0 rfl rfl ?_
    refine Ex_getf dX11_coldest_1 rfl (by first | exact z0 | exact hr) rfl rfl rfl ?_
    refine Ex_iload_n dX11_coldest_4 rfl rfl ?_
    refine Ex_inv 2 dX11_coldest_5 rfl rfl (Or.inl rfl) rfl rfl rfl rfl hr rfl rfl rfl (Ex_post (x7_has R (by omega)) ?_)
    rintro _ _ ⟨rfl, e0⟩
    obtain rfl := Eq.symm e0
    refine Ex_if_eq (t := 21) dX11_coldest_8 rfl rfl (by omega) (fun c8 => ?_) (fun c8 => ?_)
    · refine Ex_iconst dX11_coldest_21 rfl ?_
      refine Ex_iret dX11_coldest_22 rfl rfl ?_
      exact ⟨ri (by unfold an_coldest; rw [if_neg q]), rfl⟩
    · refine Ex_iload_n dX11_coldest_11 rfl rfl ?_
      refine Ex_iconst dX11_coldest_12 rfl ?_
      refine Ex_bipush dX11_coldest_13 rfl (by decide) ?_
      refine Ex_stat 0 dX11_coldest_15 rfl rfl (Or.inl rfl) rfl rfl rfl rfl rfl rfl (Ex_post (x11_within (by omega)) ?_)
      rintro _ _ ⟨rfl, e0⟩
      obtain rfl := Eq.symm e0
      refine Ex_if_ne (t := 23) dX11_coldest_18 rfl rfl (by omega) (fun c18 => ?_) (fun c18 => ?_)
      · exfalso; omega
      · refine Ex_iconst dX11_coldest_21 rfl ?_
        refine Ex_iret dX11_coldest_22 rfl rfl ?_
        exact ⟨ri (by unfold an_coldest; rw [if_neg q]), rfl⟩
theorem x11_last_l {E : am_E} {d : Nat} {h : Hp} {x y n : Nat} {hi m tu : Int} {kr : Nat → Nat} {K F T S C : Nat → Int}  (Z : Scr h x hi) (R : RailAt h (x + 10) n m tu kr T S C) (hg : Rng n T S C) (ky : KY h y n kr K F) (hB : E.2 ≤ x) (hy : x + 57 ≤ y)  : ∀ (k : Nat) (c : Nat) (l : Int), c + k = n → l = -4 ∨ (0 ≤ l ∧ l < n) → Ex E (d + 1) mX11_last 5 [.ref x, .int (i32 l), .int (i32 (c : Int))] [] h (fun r1 h1 => r1 = some (.int (i32 (an_last T S c l k))) ∧ h1 = h) := by
  obtain ⟨⟨bs, z0⟩, z1, ⟨f2, z2⟩, ⟨f3, z3⟩, ⟨f4, z4⟩, ⟨f5, z5⟩, zr0, zr1, zr2, ⟨k5, t5, s5, c5, z55⟩, ⟨k6, t6, s6, c6, z56⟩⟩ := id Z
  obtain ⟨hr, hA, hP, hG, hn6⟩ := id R
  have kk := ky.ok (r := x + 10) (by omega)
  intro k
  induction k with
  | zero =>
    intro c l hk hl
    refine Ex_iload_n dX11_last_5 rfl rfl ?_
    refine Ex_aload_n dX11_last_6 rfl rfl ?_
    refine Ex_getf dX11_last_7 rfl (by first | exact z0 | exact z1 | exact hr | exact hA | exact hP _ (by omega) | exact z2 | exact z3 | exact z4 | exact z5 | exact (kk _ (by omega)).1.1 | exact z55 | exact z56) rfl rfl rfl ?_
    refine Ex_getf dX11_last_10 rfl (by first | exact z0 | exact z1 | exact hr | exact hA | exact hP _ (by omega) | exact z2 | exact z3 | exact z4 | exact z5 | exact (kk _ (by omega)).1.1 | exact z55 | exact z56) rfl rfl rfl ?_
    refine Ex_icmp_ge (t := 54) dX11_last_13 rfl rfl (by omega) (fun c13 => ?_) (fun c13 => absurd c13 (by omega))
    refine Ex_iload_n dX11_last_54 rfl rfl ?_
    refine Ex_iret dX11_last_55 rfl rfl ?_
    exact ⟨rfl, rfl⟩
  | succ k ih =>
    intro c l hk hl
    have hgc := hg c (by omega)
    have ea : an_last T S c l (k + 1) = if l = -4 ∨ S c < S l.toNat ∨ (S c = S l.toNat ∧ T c < T l.toNat) then an_last T S (c + 1) (c : Int) k else an_last T S (c + 1) l k := rfl
    rw [ea]
    by_cases p1 : l = -4
    rotate_left
    by_cases p2 : S c < S l.toNat ∨ (S c = S l.toNat ∧ T c < T l.toNat)
    rotate_left
    · rw [if_neg (by omega)]
      refine Ex_iload_n dX11_last_5 rfl rfl ?_
      refine Ex_aload_n dX11_last_6 rfl rfl ?_
      refine Ex_getf dX11_last_7 rfl (by first | exact z0 | exact z1 | exact hr | exact hA | exact hP _ (by omega) | exact z2 | exact z3 | exact z4 | exact z5 | exact (kk _ (by omega)).1.1 | exact z55 | exact z56) rfl rfl rfl ?_
      refine Ex_getf dX11_last_10 rfl (by first | exact z0 | exact z1 | exact hr | exact hA | exact hP _ (by omega) | exact z2 | exact z3 | exact z4 | exact z5 | exact (kk _ (by omega)).1.1 | exact z55 | exact z56) rfl rfl rfl ?_
      refine Ex_icmp_ge (t := 54) dX11_last_13 rfl rfl (by omega) (fun c13 => absurd c13 (by omega)) (fun c13 => ?_)
      refine Ex_iload_n dX11_last_16 rfl rfl ?_
      refine Ex_bipush dX11_last_17 rfl (by decide) ?_
      refine Ex_icmp_eq (t := 46) dX11_last_19 rfl rfl (by omega) (fun c19 => absurd c19 (by omega)) (fun c19 => ?_)
      refine Ex_aload_n dX11_last_22 rfl rfl ?_
      refine Ex_getf dX11_last_23 rfl (by first | exact z0 | exact z1 | exact hr | exact hA | exact hP _ (by omega) | exact z2 | exact z3 | exact z4 | exact z5 | exact (kk _ (by omega)).1.1 | exact z55 | exact z56) rfl rfl rfl ?_
      refine Ex_getf dX11_last_26 rfl (by first | exact z0 | exact z1 | exact hr | exact hA | exact hP _ (by omega) | exact z2 | exact z3 | exact z4 | exact z5 | exact (kk _ (by omega)).1.1 | exact z55 | exact z56) rfl rfl rfl ?_
      refine Ex_iload_n dX11_last_29 rfl rfl ?_
      refine Ex_aald dX11_last_30 rfl (by first | exact z0 | exact z1 | exact hr | exact hA | exact hP _ (by omega) | exact z2 | exact z3 | exact z4 | exact z5 | exact (kk _ (by omega)).1.1 | exact z55 | exact z56) (by omega) (by omega) (rarr_get (by omega)) ?_
      refine Ex_aload_n dX11_last_31 rfl rfl ?_
      refine Ex_getf dX11_last_32 rfl (by first | exact z0 | exact z1 | exact hr | exact hA | exact hP _ (by omega) | exact z2 | exact z3 | exact z4 | exact z5 | exact (kk _ (by omega)).1.1 | exact z55 | exact z56) rfl rfl rfl ?_
      refine Ex_getf dX11_last_35 rfl (by first | exact z0 | exact z1 | exact hr | exact hA | exact hP _ (by omega) | exact z2 | exact z3 | exact z4 | exact z5 | exact (kk _ (by omega)).1.1 | exact z55 | exact z56) rfl rfl rfl ?_
      refine Ex_iload_n dX11_last_38 rfl rfl ?_
      refine Ex_aald dX11_last_39 rfl (by first | exact z0 | exact z1 | exact hr | exact hA | exact hP _ (by omega) | exact z2 | exact z3 | exact z4 | exact z5 | exact (kk _ (by omega)).1.1 | exact z55 | exact z56) (by omega) (by omega) (by have e9 := rarr_get (r := x + 10) (c := l.toNat) (by omega); rw [show ((l.toNat : Nat) : Int) = l by omega] at e9; exact e9) ?_
      refine Ex_inv 2 dX11_last_40 rfl rfl (Or.inl rfl) rfl rfl rfl rfl (hP c (by omega)) rfl rfl rfl (Ex_post (x5_isBehind (hP c (by omega)) (hP l.toNat (by omega)) hgc.1 hgc.2.1 (hg l.toNat (by omega)).1 (hg l.toNat (by omega)).2.1) ?_)
      rintro _ _ ⟨rfl, e0⟩
      obtain rfl := Eq.symm e0
      refine Ex_if_eq (t := 48) dX11_last_43 rfl rfl (by rw [if_neg p2]; omega) (fun c43 => ?_) (fun c43 => absurd c43 (by rw [if_neg p2] at c43; omega))
      refine Ex_iinc (L2 := [_, _, _]) dX11_last_48 rfl rfl rfl ?_
      refine Ex_goto (t := 5) dX11_last_51 rfl ?_
      exact ih (c + 1) _ (by omega) (by omega)
    · rw [if_pos (by omega)]
      refine Ex_iload_n dX11_last_5 rfl rfl ?_
      refine Ex_aload_n dX11_last_6 rfl rfl ?_
      refine Ex_getf dX11_last_7 rfl (by first | exact z0 | exact z1 | exact hr | exact hA | exact hP _ (by omega) | exact z2 | exact z3 | exact z4 | exact z5 | exact (kk _ (by omega)).1.1 | exact z55 | exact z56) rfl rfl rfl ?_
      refine Ex_getf dX11_last_10 rfl (by first | exact z0 | exact z1 | exact hr | exact hA | exact hP _ (by omega) | exact z2 | exact z3 | exact z4 | exact z5 | exact (kk _ (by omega)).1.1 | exact z55 | exact z56) rfl rfl rfl ?_
      refine Ex_icmp_ge (t := 54) dX11_last_13 rfl rfl (by omega) (fun c13 => absurd c13 (by omega)) (fun c13 => ?_)
      refine Ex_iload_n dX11_last_16 rfl rfl ?_
      refine Ex_bipush dX11_last_17 rfl (by decide) ?_
      refine Ex_icmp_eq (t := 46) dX11_last_19 rfl rfl (by omega) (fun c19 => ?_) (fun c19 => absurd c19 (by omega))
      refine Ex_iload_n dX11_last_46 rfl rfl ?_
      refine Ex_istore_n (L2 := [_, _, _]) dX11_last_47 rfl rfl rfl ?_
      refine Ex_iinc (L2 := [_, _, _]) dX11_last_48 rfl rfl rfl ?_
      refine Ex_goto (t := 5) dX11_last_51 rfl ?_
      exact ih (c + 1) _ (by omega) (by omega)
    · rw [if_pos (by omega)]
      refine Ex_iload_n dX11_last_5 rfl rfl ?_
      refine Ex_aload_n dX11_last_6 rfl rfl ?_
      refine Ex_getf dX11_last_7 rfl (by first | exact z0 | exact z1 | exact hr | exact hA | exact hP _ (by omega) | exact z2 | exact z3 | exact z4 | exact z5 | exact (kk _ (by omega)).1.1 | exact z55 | exact z56) rfl rfl rfl ?_
      refine Ex_getf dX11_last_10 rfl (by first | exact z0 | exact z1 | exact hr | exact hA | exact hP _ (by omega) | exact z2 | exact z3 | exact z4 | exact z5 | exact (kk _ (by omega)).1.1 | exact z55 | exact z56) rfl rfl rfl ?_
      refine Ex_icmp_ge (t := 54) dX11_last_13 rfl rfl (by omega) (fun c13 => absurd c13 (by omega)) (fun c13 => ?_)
      refine Ex_iload_n dX11_last_16 rfl rfl ?_
      refine Ex_bipush dX11_last_17 rfl (by decide) ?_
      refine Ex_icmp_eq (t := 46) dX11_last_19 rfl rfl (by omega) (fun c19 => absurd c19 (by omega)) (fun c19 => ?_)
      refine Ex_aload_n dX11_last_22 rfl rfl ?_
      refine Ex_getf dX11_last_23 rfl (by first | exact z0 | exact z1 | exact hr | exact hA | exact hP _ (by omega) | exact z2 | exact z3 | exact z4 | exact z5 | exact (kk _ (by omega)).1.1 | exact z55 | exact z56) rfl rfl rfl ?_
      refine Ex_getf dX11_last_26 rfl (by first | exact z0 | exact z1 | exact hr | exact hA | exact hP _ (by omega) | exact z2 | exact z3 | exact z4 | exact z5 | exact (kk _ (by omega)).1.1 | exact z55 | exact z56) rfl rfl rfl ?_
      refine Ex_iload_n dX11_last_29 rfl rfl ?_
      refine Ex_aald dX11_last_30 rfl (by first | exact z0 | exact z1 | exact hr | exact hA | exact hP _ (by omega) | exact z2 | exact z3 | exact z4 | exact z5 | exact (kk _ (by omega)).1.1 | exact z55 | exact z56) (by omega) (by omega) (rarr_get (by omega)) ?_
      refine Ex_aload_n dX11_last_31 rfl rfl ?_
      refine Ex_getf dX11_last_32 rfl (by first | exact z0 | exact z1 | exact hr | exact hA | exact hP _ (by omega) | exact z2 | exact z3 | exact z4 | exact z5 | exact (kk _ (by omega)).1.1 | exact z55 | exact z56) rfl rfl rfl ?_
      refine Ex_getf dX11_last_35 rfl (by first | exact z0 | exact z1 | exact hr | exact hA | exact hP _ (by omega) | exact z2 | exact z3 | exact z4 | exact z5 | exact (kk _ (by omega)).1.1 | exact z55 | exact z56) rfl rfl rfl ?_
      refine Ex_iload_n dX11_last_38 rfl rfl ?_
      refine Ex_aald dX11_last_39 rfl (by first | exact z0 | exact z1 | exact hr | exact hA | exact hP _ (by omega) | exact z2 | exact z3 | exact z4 | exact z5 | exact (kk _ (by omega)).1.1 | exact z55 | exact z56) (by omega) (by omega) (by have e9 := rarr_get (r := x + 10) (c := l.toNat) (by omega); rw [show ((l.toNat : Nat) : Int) = l by omega] at e9; exact e9) ?_
      refine Ex_inv 2 dX11_last_40 rfl rfl (Or.inl rfl) rfl rfl rfl rfl (hP c (by omega)) rfl rfl rfl (Ex_post (x5_isBehind (hP c (by omega)) (hP l.toNat (by omega)) hgc.1 hgc.2.1 (hg l.toNat (by omega)).1 (hg l.toNat (by omega)).2.1) ?_)
      rintro _ _ ⟨rfl, e0⟩
      obtain rfl := Eq.symm e0
      refine Ex_if_eq (t := 48) dX11_last_43 rfl rfl (by rw [if_pos p2]; omega) (fun c43 => absurd c43 (by rw [if_pos p2] at c43; omega)) (fun c43 => ?_)
      refine Ex_iload_n dX11_last_46 rfl rfl ?_
      refine Ex_istore_n (L2 := [_, _, _]) dX11_last_47 rfl rfl rfl ?_
      refine Ex_iinc (L2 := [_, _, _]) dX11_last_48 rfl rfl rfl ?_
      refine Ex_goto (t := 5) dX11_last_51 rfl ?_
      exact ih (c + 1) _ (by omega) (by omega)
theorem x11_last {E : am_E} {d : Nat} {h : Hp} {x y n : Nat} {hi m tu : Int} {kr : Nat → Nat} {K F T S C : Nat → Int}  (Z : Scr h x hi) (R : RailAt h (x + 10) n m tu kr T S C) (hg : Rng n T S C) (ky : KY h y n kr K F) (hB : E.2 ≤ x) (hy : x + 57 ≤ y)  : Ex E (d + 1) mX11_last 0 [.ref x, .retAddr 0, .retAddr 0] [] h (fun r1 h1 => r1 = some (.int (i32 (an_last T S 0 (-4) n))) ∧ h1 = h) := by
  refine Ex_bipush dX11_last_0 rfl (by decide) ?_
  refine Ex_istore_n (L2 := [_, _, _]) dX11_last_2 rfl rfl rfl ?_
  refine Ex_iconst dX11_last_3 rfl ?_
  refine Ex_istore_n (L2 := [_, _, _]) dX11_last_4 rfl rfl rfl ?_
  exact x11_last_l Z R hg ky hB hy n 0 (-4) (by omega) (by omega)
theorem x11_count {E : am_E} {d : Nat} {h : Hp} {x y n : Nat} {hi m tu : Int} {kr : Nat → Nat} {K F T S C : Nat → Int} {w : Int}  (Z : Scr h x hi) (R : RailAt h (x + 10) n m tu kr T S C) (hg : Rng n T S C) (ky : KY h y n kr K F) (hB : E.2 ≤ x) (hy : x + 57 ≤ y) (hw : (-2147483648 ≤ w ∧ w ≤ 2147483647))  : Ex E (d + 2) mX11_count 0 [.ref x, .int (i32 w)] [] h (fun r1 h1 => r1 = some (.int (i32 (an_count n m T S C w))) ∧ h1 = h) := by
  obtain ⟨⟨bs, z0⟩, z1, ⟨f2, z2⟩, ⟨f3, z3⟩, ⟨f4, z4⟩, ⟨f5, z5⟩, zr0, zr1, zr2, ⟨k5, t5, s5, c5, z55⟩, ⟨k6, t6, s6, c6, z56⟩⟩ := id Z
  obtain ⟨hr, hA, hP, hG, hn6⟩ := id R
  have kk := ky.ok (r := x + 10) (by omega)
  refine Ex_iload_n dX11_count_0 rfl rfl ?_
  rcases (show w = 0 ∨ w = 1 ∨ w = 2 ∨ w = 3 ∨ w = 4 ∨ w = 5 ∨ (w < 0 ∨ 5 < w) by omega) with e | e | e | e | e | e | e
  · subst e
    refine Ex_tabIn (off := 39) (t := 40) (0) dX11_count_1 rfl (by omega) (by omega) rfl rfl ?_
    refine Ex_aload_n dX11_count_40 rfl rfl ?_
    refine Ex_getf dX11_count_41 rfl (by first | exact z0 | exact hr) rfl rfl rfl ?_
    refine Ex_getf dX11_count_44 rfl (by first | exact z0 | exact hr) rfl rfl rfl ?_
    refine Ex_iret dX11_count_47 rfl rfl ?_
    exact ⟨rfl, rfl⟩
  · subst e
    refine Ex_tabIn (off := 47) (t := 48) (1) dX11_count_1 rfl (by omega) (by omega) rfl rfl ?_
    refine Ex_aload_n dX11_count_48 rfl rfl ?_
    refine Ex_getf dX11_count_49 rfl (by first | exact z0 | exact hr) rfl rfl rfl ?_
    refine Ex_getf dX11_count_52 rfl (by first | exact z0 | exact hr) rfl rfl rfl ?_
    refine Ex_iret dX11_count_55 rfl rfl ?_
    exact ⟨rfl, rfl⟩
  · subst e
    refine Ex_tabIn (off := 55) (t := 56) (2) dX11_count_1 rfl (by omega) (by omega) rfl rfl ?_
    refine Ex_aload_n dX11_count_56 rfl rfl ?_
    refine Ex_getf dX11_count_57 rfl (by first | exact z0 | exact hr) rfl rfl rfl ?_
    refine Ex_inv 2 dX11_count_60 rfl rfl (Or.inl rfl) rfl rfl rfl rfl hr rfl rfl rfl (Ex_post (x7_allTrust R hg) ?_)
    rintro _ _ ⟨rfl, e0⟩
    obtain rfl := Eq.symm e0
    refine Ex_iret dX11_count_63 rfl rfl ?_
    exact ⟨rfl, rfl⟩
  · subst e
    refine Ex_tabIn (off := 63) (t := 64) (3) dX11_count_1 rfl (by omega) (by omega) rfl rfl ?_
    refine Ex_aload_n dX11_count_64 rfl rfl ?_
    refine Ex_getf dX11_count_65 rfl (by first | exact z0 | exact hr) rfl rfl rfl ?_
    refine Ex_inv 2 dX11_count_68 rfl rfl (Or.inl rfl) rfl rfl rfl rfl hr rfl rfl rfl (Ex_post (x7_allSteps R hg) ?_)
    rintro _ _ ⟨rfl, e0⟩
    obtain rfl := Eq.symm e0
    refine Ex_iret dX11_count_71 rfl rfl ?_
    exact ⟨rfl, rfl⟩
  · subst e
    refine Ex_tabIn (off := 71) (t := 72) (4) dX11_count_1 rfl (by omega) (by omega) rfl rfl ?_
    refine Ex_aload_n dX11_count_72 rfl rfl ?_
    refine Ex_getf dX11_count_73 rfl (by first | exact z0 | exact hr) rfl rfl rfl ?_
    refine Ex_inv 2 dX11_count_76 rfl rfl (Or.inl rfl) rfl rfl rfl rfl hr rfl rfl rfl (Ex_post (x7_allCold R hg) ?_)
    rintro _ _ ⟨rfl, e0⟩
    obtain rfl := Eq.symm e0
    refine Ex_iret dX11_count_79 rfl rfl ?_
    exact ⟨rfl, rfl⟩
  · subst e
    refine Ex_tabIn (off := 79) (t := 80) (5) dX11_count_1 rfl (by omega) (by omega) rfl rfl ?_
    refine Ex_aload_n dX11_count_80 rfl rfl ?_
    refine Ex_getf dX11_count_81 rfl (by first | exact z0 | exact hr) rfl rfl rfl ?_
    refine Ex_inv 2 dX11_count_84 rfl rfl (Or.inl rfl) rfl rfl rfl rfl hr rfl rfl rfl (Ex_post (x7_swimBits R hg) ?_)
    rintro _ _ ⟨rfl, e0⟩
    obtain rfl := Eq.symm e0
    refine Ex_iret dX11_count_87 rfl rfl ?_
    exact ⟨rfl, rfl⟩
  · refine Ex_tabOut (t := 88) dX11_count_1 rfl (by omega) e ?_
    refine Ex_iconst dX11_count_88 rfl ?_
    refine Ex_iret dX11_count_89 rfl rfl ?_
    exact ⟨ri (by unfold an_count; rw [if_neg (by omega), if_neg (by omega), if_neg (by omega), if_neg (by omega), if_neg (by omega), if_neg (by omega)]), rfl⟩
