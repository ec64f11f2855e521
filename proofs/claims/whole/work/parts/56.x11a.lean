/-! the simple calls of the class (by program: wip/whole/spec_m.py) -/
theorem x11_child {E : am_E} {d : Nat} {h : Hp} {x y n : Nat} {hi m tu : Int} {kr : Nat → Nat} {K F T S C : Nat → Int} {c w : Int}  (Z : Scr h x hi) (R : RailAt h (x + 10) n m tu kr T S C) (hg : Rng n T S C) (ky : KY h y n kr K F) (hB : E.2 ≤ x) (hy : x + 57 ≤ y) (hc : (-2147483648 ≤ c ∧ c ≤ 2147483647)) (hw : (-2147483648 ≤ w ∧ w ≤ 2147483647))  : Ex E (d + 2) mX11_child 0 [.ref x, .int (i32 c), .int (i32 w), .retAddr 0] [] h (fun r1 h1 => r1 = some (.int (i32 (an_child n K F T S C c w))) ∧ h1 = h) := by
  obtain ⟨⟨bs, z0⟩, z1, ⟨f2, z2⟩, ⟨f3, z3⟩, ⟨f4, z4⟩, ⟨f5, z5⟩, zr0, zr1, zr2, ⟨k5, t5, s5, c5, z55⟩, ⟨k6, t6, s6, c6, z56⟩⟩ := id Z
  obtain ⟨hr, hA, hP, hG, hn6⟩ := id R
  have kk := ky.ok (r := x + 10) (by omega)
  by_cases q : 0 ≤ c ∧ c < (n : Int)
  · obtain ⟨c, rfl⟩ := Int.eq_ofNat_of_zero_le (show 0 ≤ c by omega)
    have hcn : c < n := by omega
    have hgc := hg c hcn
    have kc := (kk c hcn).1
    have ea : an_child n K F T S C (c : Int) w = (if w = 0 then K c else if w = 1 then F c else if w = 2 then T c else if w = 3 then S c else if w = 4 then C c else if w = 5 then sp_holds (K c) (F c) else if w = 6 then sp_nd (K c) (F c) (S c) else if w = 7 then sp_fright (K c) (F c) else if w = 8 then sp_bears (K c) (F c) else if w = 9 then sp_passes (K c) else -1) := by unfold an_child; rw [if_pos q]; rfl
    rw [ea]
    refine Ex_aload_n dX11_child_0 rfl rfl ?_
    refine Ex_getf dX11_child_1 rfl (by first | exact z0 | exact z1 | exact hr | exact hA | exact hP _ (by omega) | exact z2 | exact z3 | exact z4 | exact z5 | exact (kk _ (by omega)).1.1 | exact z55 | exact z56) rfl rfl rfl ?_
    refine Ex_iload_n dX11_child_4 rfl rfl ?_
    refine Ex_inv 2 dX11_child_5 rfl rfl (Or.inl rfl) rfl rfl rfl rfl hr rfl rfl rfl (Ex_post (x7_has R (by omega)) ?_)
    rintro _ _ ⟨rfl, e0⟩
    obtain rfl := Eq.symm e0
    refine Ex_if_ne (t := 13) dX11_child_8 rfl rfl (by omega) (fun c8 => ?_) (fun c8 => absurd c8 (by omega))
    refine Ex_aload_n dX11_child_13 rfl rfl ?_
    refine Ex_getf dX11_child_14 rfl (by first | exact z0 | exact z1 | exact hr | exact hA | exact hP _ (by omega) | exact z2 | exact z3 | exact z4 | exact z5 | exact (kk _ (by omega)).1.1 | exact z55 | exact z56) rfl rfl rfl ?_
    refine Ex_getf dX11_child_17 rfl (by first | exact z0 | exact z1 | exact hr | exact hA | exact hP _ (by omega) | exact z2 | exact z3 | exact z4 | exact z5 | exact (kk _ (by omega)).1.1 | exact z55 | exact z56) rfl rfl rfl ?_
    refine Ex_iload_n dX11_child_20 rfl rfl ?_
    refine Ex_aald dX11_child_21 rfl (by first | exact z0 | exact z1 | exact hr | exact hA | exact hP _ (by omega) | exact z2 | exact z3 | exact z4 | exact z5 | exact (kk _ (by omega)).1.1 | exact z55 | exact z56) (by omega) (by omega) (rarr_get (by omega)) ?_
    refine Ex_astore_n (L2 := [_, _, _, _]) dX11_child_22 rfl rfl rfl ?_
    refine Ex_iload_n dX11_child_23 rfl rfl ?_
    rcases (show w = 0 ∨ w = 1 ∨ w = 2 ∨ w = 3 ∨ w = 4 ∨ w = 5 ∨ w = 6 ∨ w = 7 ∨ w = 8 ∨ w = 9 ∨ (w < 0 ∨ 9 < w) by omega) with e | e | e | e | e | e | e | e | e | e | e
    · subst e
      refine Ex_tabIn (off := 56) (t := 80) (0) dX11_child_24 rfl (by omega) (by omega) rfl rfl ?_
      refine Ex_aload_n dX11_child_80 rfl rfl ?_
      refine Ex_getf dX11_child_81 rfl (by first | exact z0 | exact z1 | exact hr | exact hA | exact hP _ (by omega) | exact z2 | exact z3 | exact z4 | exact z5 | exact (kk _ (by omega)).1.1 | exact z55 | exact z56) rfl rfl rfl ?_
      refine Ex_getf dX11_child_84 rfl (by first | exact z0 | exact z1 | exact hr | exact hA | exact hP _ (by omega) | exact z2 | exact z3 | exact z4 | exact z5 | exact (kk _ (by omega)).1.1 | exact z55 | exact z56) rfl (ktag_in _) rfl ?_
      refine Ex_iret dX11_child_87 rfl rfl ?_
      exact ⟨ri (by simp), rfl⟩
    · subst e
      refine Ex_tabIn (off := 64) (t := 88) (1) dX11_child_24 rfl (by omega) (by omega) rfl rfl ?_
      refine Ex_aload_n dX11_child_88 rfl rfl ?_
      refine Ex_getf dX11_child_89 rfl (by first | exact z0 | exact z1 | exact hr | exact hA | exact hP _ (by omega) | exact z2 | exact z3 | exact z4 | exact z5 | exact (kk _ (by omega)).1.1 | exact z55 | exact z56) rfl rfl rfl ?_
      refine Ex_getf dX11_child_92 rfl (by first | exact z0 | exact z1 | exact hr | exact hA | exact hP _ (by omega) | exact z2 | exact z3 | exact z4 | exact z5 | exact (kk _ (by omega)).1.1 | exact z55 | exact z56) rfl (ktag_in _) rfl ?_
      refine Ex_iret dX11_child_95 rfl rfl ?_
      exact ⟨ri (by simp), rfl⟩
    · subst e
      refine Ex_tabIn (off := 72) (t := 96) (2) dX11_child_24 rfl (by omega) (by omega) rfl rfl ?_
      refine Ex_aload_n dX11_child_96 rfl rfl ?_
      refine Ex_getf dX11_child_97 rfl (by first | exact z0 | exact z1 | exact hr | exact hA | exact hP _ (by omega) | exact z2 | exact z3 | exact z4 | exact z5 | exact (kk _ (by omega)).1.1 | exact z55 | exact z56) rfl rfl rfl ?_
      refine Ex_iret dX11_child_100 rfl rfl ?_
      exact ⟨ri (by simp), rfl⟩
    · subst e
      refine Ex_tabIn (off := 77) (t := 101) (3) dX11_child_24 rfl (by omega) (by omega) rfl rfl ?_
      refine Ex_aload_n dX11_child_101 rfl rfl ?_
      refine Ex_getf dX11_child_102 rfl (by first | exact z0 | exact z1 | exact hr | exact hA | exact hP _ (by omega) | exact z2 | exact z3 | exact z4 | exact z5 | exact (kk _ (by omega)).1.1 | exact z55 | exact z56) rfl rfl rfl ?_
      refine Ex_iret dX11_child_105 rfl rfl ?_
      exact ⟨ri (by simp), rfl⟩
    · subst e
      refine Ex_tabIn (off := 82) (t := 106) (4) dX11_child_24 rfl (by omega) (by omega) rfl rfl ?_
      refine Ex_aload_n dX11_child_106 rfl rfl ?_
      refine Ex_getf dX11_child_107 rfl (by first | exact z0 | exact z1 | exact hr | exact hA | exact hP _ (by omega) | exact z2 | exact z3 | exact z4 | exact z5 | exact (kk _ (by omega)).1.1 | exact z55 | exact z56) rfl rfl rfl ?_
      refine Ex_iret dX11_child_110 rfl rfl ?_
      exact ⟨ri (by simp), rfl⟩
    · subst e
      refine Ex_tabIn (off := 87) (t := 111) (5) dX11_child_24 rfl (by omega) (by omega) rfl rfl ?_
      refine Ex_aload_n dX11_child_111 rfl rfl ?_
      refine Ex_getf dX11_child_112 rfl (by first | exact z0 | exact z1 | exact hr | exact hA | exact hP _ (by omega) | exact z2 | exact z3 | exact z4 | exact z5 | exact (kk _ (by omega)).1.1 | exact z55 | exact z56) rfl rfl rfl ?_
      refine Ex_getf dX11_child_115 rfl (by first | exact z0 | exact z1 | exact hr | exact hA | exact hP _ (by omega) | exact z2 | exact z3 | exact z4 | exact z5 | exact (kk _ (by omega)).1.1 | exact z55 | exact z56) rfl (ktag_in _) rfl ?_
      refine Ex_iret dX11_child_118 rfl rfl ?_
      exact ⟨ri (by simp), rfl⟩
    · subst e
      refine Ex_tabIn (off := 95) (t := 119) (6) dX11_child_24 rfl (by omega) (by omega) rfl rfl ?_
      refine Ex_aload_n dX11_child_119 rfl rfl ?_
      refine Ex_inv 2 dX11_child_120 rfl rfl (Or.inl rfl) rfl rfl rfl rfl (hP c hcn) rfl rfl rfl (Ex_post (x5_needs (hP c hcn) hgc.2.1 kc) ?_)
      rintro _ _ ⟨rfl, e0⟩
      obtain rfl := Eq.symm e0
      refine Ex_iret dX11_child_123 rfl rfl ?_
      exact ⟨ri (by simp), rfl⟩
    · subst e
      refine Ex_tabIn (off := 100) (t := 124) (7) dX11_child_24 rfl (by omega) (by omega) rfl rfl ?_
      refine Ex_aload_n dX11_child_124 rfl rfl ?_
      refine Ex_getf dX11_child_125 rfl (by first | exact z0 | exact z1 | exact hr | exact hA | exact hP _ (by omega) | exact z2 | exact z3 | exact z4 | exact z5 | exact (kk _ (by omega)).1.1 | exact z55 | exact z56) rfl rfl rfl ?_
      refine Ex_getf dX11_child_128 rfl (by first | exact z0 | exact z1 | exact hr | exact hA | exact hP _ (by omega) | exact z2 | exact z3 | exact z4 | exact z5 | exact (kk _ (by omega)).1.1 | exact z55 | exact z56) rfl (ktag_in _) rfl ?_
      refine Ex_iret dX11_child_131 rfl rfl ?_
      exact ⟨ri (by simp), rfl⟩
    · subst e
      refine Ex_tabIn (off := 108) (t := 132) (8) dX11_child_24 rfl (by omega) (by omega) rfl rfl ?_
      refine Ex_aload_n dX11_child_132 rfl rfl ?_
      refine Ex_getf dX11_child_133 rfl (by first | exact z0 | exact z1 | exact hr | exact hA | exact hP _ (by omega) | exact z2 | exact z3 | exact z4 | exact z5 | exact (kk _ (by omega)).1.1 | exact z55 | exact z56) rfl rfl rfl ?_
      refine Ex_getf dX11_child_136 rfl (by first | exact z0 | exact z1 | exact hr | exact hA | exact hP _ (by omega) | exact z2 | exact z3 | exact z4 | exact z5 | exact (kk _ (by omega)).1.1 | exact z55 | exact z56) rfl (ktag_in _) rfl ?_
      refine Ex_iret dX11_child_139 rfl rfl ?_
      exact ⟨ri (by simp), rfl⟩
    · subst e
      refine Ex_tabIn (off := 116) (t := 140) (9) dX11_child_24 rfl (by omega) (by omega) rfl rfl ?_
      refine Ex_aload_n dX11_child_140 rfl rfl ?_
      refine Ex_getf dX11_child_141 rfl (by first | exact z0 | exact z1 | exact hr | exact hA | exact hP _ (by omega) | exact z2 | exact z3 | exact z4 | exact z5 | exact (kk _ (by omega)).1.1 | exact z55 | exact z56) rfl rfl rfl ?_
      refine Ex_getf dX11_child_144 rfl (by first | exact z0 | exact z1 | exact hr | exact hA | exact hP _ (by omega) | exact z2 | exact z3 | exact z4 | exact z5 | exact (kk _ (by omega)).1.1 | exact z55 | exact z56) rfl (ktag_in _) rfl ?_
      refine Ex_iret dX11_child_147 rfl rfl ?_
      exact ⟨ri (by simp), rfl⟩
    · refine Ex_tabOut (t := 148) dX11_child_24 rfl (by omega) e ?_
      refine Ex_iconst dX11_child_148 rfl ?_
      refine Ex_iret dX11_child_149 rfl rfl ?_
      exact ⟨ri (by repeat' rw [if_neg (by omega)]), rfl⟩
  · refine Ex_aload_n dX11_child_0 rfl rfl ?_
    refine Ex_getf dX11_child_1 rfl (by first | exact z0 | exact z1 | exact hr | exact hA | exact hP _ (by omega) | exact z2 | exact z3 | exact z4 | exact z5 | exact (kk _ (by omega)).1.1 | exact z55 | exact z56) rfl rfl rfl ?_
    refine Ex_iload_n dX11_child_4 rfl rfl ?_
    refine Ex_inv 2 dX11_child_5 rfl rfl (Or.inl rfl) rfl rfl rfl rfl hr rfl rfl rfl (Ex_post (x7_has R (by omega)) ?_)
    rintro _ _ ⟨rfl, e0⟩
    obtain rfl := Eq.symm e0
    refine Ex_if_ne (t := 13) dX11_child_8 rfl rfl (by omega) (fun c8 => absurd c8 (by omega)) (fun c8 => ?_)
    refine Ex_iconst dX11_child_11 rfl ?_
    refine Ex_iret dX11_child_12 rfl rfl ?_
    exact ⟨ri (by unfold an_child; rw [if_neg q]), rfl⟩
theorem x11_feels {E : am_E} {d : Nat} {h : Hp} {x y n : Nat} {hi m tu : Int} {kr : Nat → Nat} {K F T S C : Nat → Int} {c w v : Int}  (Z : Scr h x hi) (R : RailAt h (x + 10) n m tu kr T S C) (hg : Rng n T S C) (ky : KY h y n kr K F) (hB : E.2 ≤ x) (hy : x + 57 ≤ y) (hc : (-2147483648 ≤ c ∧ c ≤ 2147483647)) (hw : (-2147483648 ≤ w ∧ w ≤ 2147483647)) (hv : (-2147483648 ≤ v ∧ v ≤ 2147483647))  : Ex E (d + 2) mX11_feels 0 [.ref x, .int (i32 c), .int (i32 w), .int (i32 v), .retAddr 0, .retAddr 0] [] h (fun r1 h1 => Pst h h1 x y r1 (do_feels c w v (n, m, K, F, T, S, C))) := by
  obtain ⟨⟨bs, z0⟩, z1, ⟨f2, z2⟩, ⟨f3, z3⟩, ⟨f4, z4⟩, ⟨f5, z5⟩, zr0, zr1, zr2, ⟨k5, t5, s5, c5, z55⟩, ⟨k6, t6, s6, c6, z56⟩⟩ := id Z
  obtain ⟨hr, hA, hP, hG, hn6⟩ := id R
  have kk := ky.ok (r := x + 10) (by omega)
  by_cases q : 0 ≤ c ∧ c < (n : Int)
  · obtain ⟨c, rfl⟩ := Int.eq_ofNat_of_zero_le (show 0 ≤ c by omega)
    have hcn : c < n := by omega
    have hgc := hg c hcn
    have kc := (kk c hcn).1
    by_cases q1 : w = 0 ∧ 0 ≤ v ∧ v ≤ 20
    · have ea : do_feels (c : Int) w v (n, m, K, F, T, S, C) = (T c, rsT c v (n, m, K, F, T, S, C)) := by unfold do_feels; rw [if_pos q, if_pos q1]; rfl
      rw [ea]
      refine Ex_aload_n dX11_feels_0 rfl rfl ?_
      refine Ex_getf dX11_feels_1 rfl (by first | exact z0 | exact z1 | exact hr | exact hA | exact hP _ (by omega) | exact z2 | exact z3 | exact z4 | exact z5 | exact (kk _ (by omega)).1.1 | exact z55 | exact z56) rfl rfl rfl ?_
      refine Ex_iload_n dX11_feels_4 rfl rfl ?_
      refine Ex_inv 2 dX11_feels_5 rfl rfl (Or.inl rfl) rfl rfl rfl rfl hr rfl rfl rfl (Ex_post (x7_has R (by omega)) ?_)
      rintro _ _ ⟨rfl, e0⟩
      obtain rfl := Eq.symm e0
      refine Ex_if_ne (t := 13) dX11_feels_8 rfl rfl (by omega) (fun c8 => ?_) (fun c8 => absurd c8 (by omega))
      refine Ex_aload_n dX11_feels_13 rfl rfl ?_
      refine Ex_getf dX11_feels_14 rfl (by first | exact z0 | exact z1 | exact hr | exact hA | exact hP _ (by omega) | exact z2 | exact z3 | exact z4 | exact z5 | exact (kk _ (by omega)).1.1 | exact z55 | exact z56) rfl rfl rfl ?_
      refine Ex_getf dX11_feels_17 rfl (by first | exact z0 | exact z1 | exact hr | exact hA | exact hP _ (by omega) | exact z2 | exact z3 | exact z4 | exact z5 | exact (kk _ (by omega)).1.1 | exact z55 | exact z56) rfl rfl rfl ?_
      refine Ex_iload_n dX11_feels_20 rfl rfl ?_
      refine Ex_aald dX11_feels_21 rfl (by first | exact z0 | exact z1 | exact hr | exact hA | exact hP _ (by omega) | exact z2 | exact z3 | exact z4 | exact z5 | exact (kk _ (by omega)).1.1 | exact z55 | exact z56) (by omega) (by omega) (rarr_get (by omega)) ?_
      refine Ex_astore (L2 := [_, _, _, _, _, _]) dX11_feels_22 rfl rfl rfl ?_
      refine Ex_iload_n dX11_feels_24 rfl rfl ?_
      refine Ex_if_ne (t := 36) dX11_feels_25 rfl rfl (by omega) (fun c25 => absurd c25 (by omega)) (fun c25 => ?_)
      refine Ex_aload dX11_feels_28 rfl rfl ?_
      refine Ex_getf dX11_feels_30 rfl (by first | exact z0 | exact z1 | exact hr | exact hA | exact hP _ (by omega) | exact z2 | exact z3 | exact z4 | exact z5 | exact (kk _ (by omega)).1.1 | exact z55 | exact z56) rfl rfl rfl ?_
      refine Ex_goto (t := 41) dX11_feels_33 rfl ?_
      refine Ex_istore (L2 := [_, _, _, _, _, _]) dX11_feels_41 rfl rfl rfl ?_
      refine Ex_iload_n dX11_feels_43 rfl rfl ?_
      refine Ex_if_ne (t := 66) dX11_feels_44 rfl rfl (by omega) (fun c44 => absurd c44 (by omega)) (fun c44 => ?_)
      refine Ex_iload_n dX11_feels_47 rfl rfl ?_
      refine Ex_iconst dX11_feels_48 rfl ?_
      refine Ex_bipush dX11_feels_49 rfl (by decide) ?_
      refine Ex_stat 0 dX11_feels_51 rfl rfl (Or.inl rfl) rfl rfl rfl rfl rfl rfl (Ex_post (x11_within (by omega)) ?_)
      rintro _ _ ⟨rfl, e0⟩
      obtain rfl := Eq.symm e0
      refine Ex_if_eq (t := 66) dX11_feels_54 rfl rfl (by omega) (fun c54 => absurd c54 (by omega)) (fun c54 => ?_)
      refine Ex_aload dX11_feels_57 rfl rfl ?_
      refine Ex_iload_n dX11_feels_59 rfl rfl ?_
      refine Ex_putf (fs2 := [_, _, _, _]) dX11_feels_60 rfl (by first | exact z0 | exact z1 | exact hr | exact hA | exact hP _ (by omega) | exact z2 | exact z3 | exact z4 | exact z5 | exact (kk _ (by omega)).1.1 | exact z55 | exact z56) rfl rfl rfl rfl rfl (by omega) rfl ?_
      try rw [am_put2]
      refine Ex_iload dX11_feels_63 rfl rfl ?_
      refine Ex_iret dX11_feels_65 rfl rfl ?_
      have R2 := R.pup1 (i := c) (t := v) (s := (S c)) (c := C c) (by omega)
      have hg2 := hg.fu (i := c) (t := v) (s := (S c)) (c := C c) (by omega) hgc.2.1 hgc.2.2
      rw [fu_same, fu_same] at R2 hg2
      have f9 : Fr h (am_put h (x + 10 + 2 + c) (pcell (kr c) v (S c) (C c))) (x + 10) (x + 19) := Fr.put _ (by omega)
      exact ⟨rfl, ⟨kr, tu, R2, hg2, ky.fr f9 (by omega)⟩, f9⟩
    · by_cases q2 : w = 1 ∧ 0 ≤ v ∧ v ≤ 7
      · have ea : do_feels (c : Int) w v (n, m, K, F, T, S, C) = (S c, rsS c v (n, m, K, F, T, S, C)) := by unfold do_feels; rw [if_pos q, if_neg q1, if_pos q2]; rfl
        rw [ea]
        refine Ex_aload_n dX11_feels_0 rfl rfl ?_
        refine Ex_getf dX11_feels_1 rfl (by first | exact z0 | exact z1 | exact hr | exact hA | exact hP _ (by omega) | exact z2 | exact z3 | exact z4 | exact z5 | exact (kk _ (by omega)).1.1 | exact z55 | exact z56) rfl rfl rfl ?_
        refine Ex_iload_n dX11_feels_4 rfl rfl ?_
        refine Ex_inv 2 dX11_feels_5 rfl rfl (Or.inl rfl) rfl rfl rfl rfl hr rfl rfl rfl (Ex_post (x7_has R (by omega)) ?_)
        rintro _ _ ⟨rfl, e0⟩
        obtain rfl := Eq.symm e0
        refine Ex_if_ne (t := 13) dX11_feels_8 rfl rfl (by omega) (fun c8 => ?_) (fun c8 => absurd c8 (by omega))
        refine Ex_aload_n dX11_feels_13 rfl rfl ?_
        refine Ex_getf dX11_feels_14 rfl (by first | exact z0 | exact z1 | exact hr | exact hA | exact hP _ (by omega) | exact z2 | exact z3 | exact z4 | exact z5 | exact (kk _ (by omega)).1.1 | exact z55 | exact z56) rfl rfl rfl ?_
        refine Ex_getf dX11_feels_17 rfl (by first | exact z0 | exact z1 | exact hr | exact hA | exact hP _ (by omega) | exact z2 | exact z3 | exact z4 | exact z5 | exact (kk _ (by omega)).1.1 | exact z55 | exact z56) rfl rfl rfl ?_
        refine Ex_iload_n dX11_feels_20 rfl rfl ?_
        refine Ex_aald dX11_feels_21 rfl (by first | exact z0 | exact z1 | exact hr | exact hA | exact hP _ (by omega) | exact z2 | exact z3 | exact z4 | exact z5 | exact (kk _ (by omega)).1.1 | exact z55 | exact z56) (by omega) (by omega) (rarr_get (by omega)) ?_
        refine Ex_astore (L2 := [_, _, _, _, _, _]) dX11_feels_22 rfl rfl rfl ?_
        refine Ex_iload_n dX11_feels_24 rfl rfl ?_
        refine Ex_if_ne (t := 36) dX11_feels_25 rfl rfl (by omega) (fun c25 => ?_) (fun c25 => absurd c25 (by omega))
        refine Ex_aload dX11_feels_36 rfl rfl ?_
        refine Ex_getf dX11_feels_38 rfl (by first | exact z0 | exact z1 | exact hr | exact hA | exact hP _ (by omega) | exact z2 | exact z3 | exact z4 | exact z5 | exact (kk _ (by omega)).1.1 | exact z55 | exact z56) rfl rfl rfl ?_
        refine Ex_istore (L2 := [_, _, _, _, _, _]) dX11_feels_41 rfl rfl rfl ?_
        refine Ex_iload_n dX11_feels_43 rfl rfl ?_
        refine Ex_if_ne (t := 66) dX11_feels_44 rfl rfl (by omega) (fun c44 => ?_) (fun c44 => absurd c44 (by omega))
        refine Ex_iload_n dX11_feels_66 rfl rfl ?_
        refine Ex_iconst dX11_feels_67 rfl ?_
        refine Ex_icmp_ne (t := 90) dX11_feels_68 rfl rfl (by omega) (fun c68 => absurd c68 (by omega)) (fun c68 => ?_)
        refine Ex_iload_n dX11_feels_71 rfl rfl ?_
        refine Ex_iconst dX11_feels_72 rfl ?_
        refine Ex_bipush dX11_feels_73 rfl (by decide) ?_
        refine Ex_stat 0 dX11_feels_75 rfl rfl (Or.inl rfl) rfl rfl rfl rfl rfl rfl (Ex_post (x11_within (by omega)) ?_)
        rintro _ _ ⟨rfl, e0⟩
        obtain rfl := Eq.symm e0
        refine Ex_if_eq (t := 90) dX11_feels_78 rfl rfl (by omega) (fun c78 => absurd c78 (by omega)) (fun c78 => ?_)
        refine Ex_aload dX11_feels_81 rfl rfl ?_
        refine Ex_iload_n dX11_feels_83 rfl rfl ?_
        refine Ex_putf (fs2 := [_, _, _, _]) dX11_feels_84 rfl (by first | exact z0 | exact z1 | exact hr | exact hA | exact hP _ (by omega) | exact z2 | exact z3 | exact z4 | exact z5 | exact (kk _ (by omega)).1.1 | exact z55 | exact z56) rfl rfl rfl rfl rfl (by omega) rfl ?_
        try rw [am_put2]
        refine Ex_iload dX11_feels_87 rfl rfl ?_
        refine Ex_iret dX11_feels_89 rfl rfl ?_
        have R2 := R.pup1 (i := c) (t := (T c)) (s := v) (c := C c) (by omega)
        have hg2 := hg.fu (i := c) (t := (T c)) (s := v) (c := C c) hgc.1 (by omega) hgc.2.2
        rw [fu_same, fu_same] at R2 hg2
        have f9 : Fr h (am_put h (x + 10 + 2 + c) (pcell (kr c) (T c) v (C c))) (x + 10) (x + 19) := Fr.put _ (by omega)
        exact ⟨rfl, ⟨kr, tu, R2, hg2, ky.fr f9 (by omega)⟩, f9⟩
      · have ea : do_feels (c : Int) w v (n, m, K, F, T, S, C) = (-1, (n, m, K, F, T, S, C)) := by unfold do_feels; rw [if_pos q, if_neg q1, if_neg q2]
        rw [ea]
        refine Ex_aload_n dX11_feels_0 rfl rfl ?_
        refine Ex_getf dX11_feels_1 rfl (by first | exact z0 | exact z1 | exact hr | exact hA | exact hP _ (by omega) | exact z2 | exact z3 | exact z4 | exact z5 | exact (kk _ (by omega)).1.1 | exact z55 | exact z56) rfl rfl rfl ?_
        refine Ex_iload_n dX11_feels_4 rfl rfl ?_
        refine Ex_inv 2 dX11_feels_5 rfl rfl (Or.inl rfl) rfl rfl rfl rfl hr rfl rfl rfl (Ex_post (x7_has R (by omega)) ?_)
        rintro _ _ ⟨rfl, e0⟩
        obtain rfl := Eq.symm e0
        refine Ex_if_ne (t := 13) dX11_feels_8 rfl rfl (by omega) (fun c8 => ?_) (fun c8 => absurd c8 (by omega))
        refine Ex_aload_n dX11_feels_13 rfl rfl ?_
        refine Ex_getf dX11_feels_14 rfl (by first | exact z0 | exact z1 | exact hr | exact hA | exact hP _ (by omega) | exact z2 | exact z3 | exact z4 | exact z5 | exact (kk _ (by omega)).1.1 | exact z55 | exact z56) rfl rfl rfl ?_
        refine Ex_getf dX11_feels_17 rfl (by first | exact z0 | exact z1 | exact hr | exact hA | exact hP _ (by omega) | exact z2 | exact z3 | exact z4 | exact z5 | exact (kk _ (by omega)).1.1 | exact z55 | exact z56) rfl rfl rfl ?_
        refine Ex_iload_n dX11_feels_20 rfl rfl ?_
        refine Ex_aald dX11_feels_21 rfl (by first | exact z0 | exact z1 | exact hr | exact hA | exact hP _ (by omega) | exact z2 | exact z3 | exact z4 | exact z5 | exact (kk _ (by omega)).1.1 | exact z55 | exact z56) (by omega) (by omega) (rarr_get (by omega)) ?_
        refine Ex_astore (L2 := [_, _, _, _, _, _]) dX11_feels_22 rfl rfl rfl ?_
        refine Ex_iload_n dX11_feels_24 rfl rfl ?_
        refine Ex_if_ne (t := 36) dX11_feels_25 rfl rfl (by omega) (fun c25 => ?_) (fun c25 => ?_)
        · refine Ex_aload dX11_feels_36 rfl rfl ?_
          refine Ex_getf dX11_feels_38 rfl (by first | exact z0 | exact z1 | exact hr | exact hA | exact hP _ (by omega) | exact z2 | exact z3 | exact z4 | exact z5 | exact (kk _ (by omega)).1.1 | exact z55 | exact z56) rfl rfl rfl ?_
          refine Ex_istore (L2 := [_, _, _, _, _, _]) dX11_feels_41 rfl rfl rfl ?_
          refine Ex_iload_n dX11_feels_43 rfl rfl ?_
          refine Ex_if_ne (t := 66) dX11_feels_44 rfl rfl (by omega) (fun c44 => ?_) (fun c44 => ?_)
          · refine Ex_iload_n dX11_feels_66 rfl rfl ?_
            refine Ex_iconst dX11_feels_67 rfl ?_
            refine Ex_icmp_ne (t := 90) dX11_feels_68 rfl rfl (by omega) (fun c68 => ?_) (fun c68 => ?_)
            · refine Ex_iconst dX11_feels_90 rfl ?_
              refine Ex_iret dX11_feels_91 rfl rfl ?_
              exact pst_same R hg ky
            · refine Ex_iload_n dX11_feels_71 rfl rfl ?_
              refine Ex_iconst dX11_feels_72 rfl ?_
              refine Ex_bipush dX11_feels_73 rfl (by decide) ?_
              refine Ex_stat 0 dX11_feels_75 rfl rfl (Or.inl rfl) rfl rfl rfl rfl rfl rfl (Ex_post (x11_within (by omega)) ?_)
              rintro _ _ ⟨rfl, e0⟩
              obtain rfl := Eq.symm e0
              refine Ex_if_eq (t := 90) dX11_feels_78 rfl rfl (by omega) (fun c78 => ?_) (fun c78 => ?_)
              · refine Ex_iconst dX11_feels_90 rfl ?_
                refine Ex_iret dX11_feels_91 rfl rfl ?_
                exact pst_same R hg ky
              · exfalso; omega
          · refine Ex_iload_n dX11_feels_47 rfl rfl ?_
            refine Ex_iconst dX11_feels_48 rfl ?_
            refine Ex_bipush dX11_feels_49 rfl (by decide) ?_
            refine Ex_stat 0 dX11_feels_51 rfl rfl (Or.inl rfl) rfl rfl rfl rfl rfl rfl (Ex_post (x11_within (by omega)) ?_)
            rintro _ _ ⟨rfl, e0⟩
            obtain rfl := Eq.symm e0
            refine Ex_if_eq (t := 66) dX11_feels_54 rfl rfl (by omega) (fun c54 => ?_) (fun c54 => ?_)
            · refine Ex_iload_n dX11_feels_66 rfl rfl ?_
              refine Ex_iconst dX11_feels_67 rfl ?_
              refine Ex_icmp_ne (t := 90) dX11_feels_68 rfl rfl (by omega) (fun c68 => ?_) (fun c68 => ?_)
              · refine Ex_iconst dX11_feels_90 rfl ?_
                refine Ex_iret dX11_feels_91 rfl rfl ?_
                exact pst_same R hg ky
              · refine Ex_iload_n dX11_feels_71 rfl rfl ?_
                refine Ex_iconst dX11_feels_72 rfl ?_
                refine Ex_bipush dX11_feels_73 rfl (by decide) ?_
                refine Ex_stat 0 dX11_feels_75 rfl rfl (Or.inl rfl) rfl rfl rfl rfl rfl rfl (Ex_post (x11_within (by omega)) ?_)
                rintro _ _ ⟨rfl, e0⟩
                obtain rfl := Eq.symm e0
                refine Ex_if_eq (t := 90) dX11_feels_78 rfl rfl (by omega) (fun c78 => ?_) (fun c78 => ?_)
                · refine Ex_iconst dX11_feels_90 rfl ?_
                  refine Ex_iret dX11_feels_91 rfl rfl ?_
                  exact pst_same R hg ky
                · exfalso; omega
            · exfalso; omega
        · refine Ex_aload dX11_feels_28 rfl rfl ?_
          refine Ex_getf dX11_feels_30 rfl (by first | exact z0 | exact z1 | exact hr | exact hA | exact hP _ (by omega) | exact z2 | exact z3 | exact z4 | exact z5 | exact (kk _ (by omega)).1.1 | exact z55 | exact z56) rfl rfl rfl ?_
          refine Ex_goto (t := 41) dX11_feels_33 rfl ?_
          refine Ex_istore (L2 := [_, _, _, _, _, _]) dX11_feels_41 rfl rfl rfl ?_
          refine Ex_iload_n dX11_feels_43 rfl rfl ?_
          refine Ex_if_ne (t := 66) dX11_feels_44 rfl rfl (by omega) (fun c44 => ?_) (fun c44 => ?_)
          · refine Ex_iload_n dX11_feels_66 rfl rfl ?_
            refine Ex_iconst dX11_feels_67 rfl ?_
            refine Ex_icmp_ne (t := 90) dX11_feels_68 rfl rfl (by omega) (fun c68 => ?_) (fun c68 => ?_)
            · refine Ex_iconst dX11_feels_90 rfl ?_
              refine Ex_iret dX11_feels_91 rfl rfl ?_
              exact pst_same R hg ky
            · refine Ex_iload_n dX11_feels_71 rfl rfl ?_
              refine Ex_iconst dX11_feels_72 rfl ?_
              refine Ex_bipush dX11_feels_73 rfl (by decide) ?_
              refine Ex_stat 0 dX11_feels_75 rfl rfl (Or.inl rfl) rfl rfl rfl rfl rfl rfl (Ex_post (x11_within (by omega)) ?_)
              rintro _ _ ⟨rfl, e0⟩
              obtain rfl := Eq.symm e0
              refine Ex_if_eq (t := 90) dX11_feels_78 rfl rfl (by omega) (fun c78 => ?_) (fun c78 => ?_)
              · refine Ex_iconst dX11_feels_90 rfl ?_
                refine Ex_iret dX11_feels_91 rfl rfl ?_
                exact pst_same R hg ky
              · exfalso; omega
          · refine Ex_iload_n dX11_feels_47 rfl rfl ?_
            refine Ex_iconst dX11_feels_48 rfl ?_
            refine Ex_bipush dX11_feels_49 rfl (by decide) ?_
            refine Ex_stat 0 dX11_feels_51 rfl rfl (Or.inl rfl) rfl rfl rfl rfl rfl rfl (Ex_post (x11_within (by omega)) ?_)
            rintro _ _ ⟨rfl, e0⟩
            obtain rfl := Eq.symm e0
            refine Ex_if_eq (t := 66) dX11_feels_54 rfl rfl (by omega) (fun c54 => ?_) (fun c54 => ?_)
            · refine Ex_iload_n dX11_feels_66 rfl rfl ?_
              refine Ex_iconst dX11_feels_67 rfl ?_
              refine Ex_icmp_ne (t := 90) dX11_feels_68 rfl rfl (by omega) (fun c68 => ?_) (fun c68 => ?_)
              · refine Ex_iconst dX11_feels_90 rfl ?_
                refine Ex_iret dX11_feels_91 rfl rfl ?_
                exact pst_same R hg ky
              · refine Ex_iload_n dX11_feels_71 rfl rfl ?_
                refine Ex_iconst dX11_feels_72 rfl ?_
                refine Ex_bipush dX11_feels_73 rfl (by decide) ?_
                refine Ex_stat 0 dX11_feels_75 rfl rfl (Or.inl rfl) rfl rfl rfl rfl rfl rfl (Ex_post (x11_within (by omega)) ?_)
                rintro _ _ ⟨rfl, e0⟩
                obtain rfl := Eq.symm e0
                refine Ex_if_eq (t := 90) dX11_feels_78 rfl rfl (by omega) (fun c78 => ?_) (fun c78 => ?_)
                · refine Ex_iconst dX11_feels_90 rfl ?_
                  refine Ex_iret dX11_feels_91 rfl rfl ?_
                  exact pst_same R hg ky
                · exfalso; omega
            · exfalso; omega
  · have ea : do_feels c w v (n, m, K, F, T, S, C) = (-1, (n, m, K, F, T, S, C)) := by unfold do_feels; rw [if_neg q]
    rw [ea]
    refine Ex_aload_n dX11_feels_0 rfl rfl ?_
    refine Ex_getf dX11_feels_1 rfl (by first | exact z0 | exact z1 | exact hr | exact hA | exact hP _ (by omega) | exact z2 | exact z3 | exact z4 | exact z5 | exact (kk _ (by omega)).1.1 | exact z55 | exact z56) rfl rfl rfl ?_
    refine Ex_iload_n dX11_feels_4 rfl rfl ?_
    refine Ex_inv 2 dX11_feels_5 rfl rfl (Or.inl rfl) rfl rfl rfl rfl hr rfl rfl rfl (Ex_post (x7_has R (by omega)) ?_)
    rintro _ _ ⟨rfl, e0⟩
    obtain rfl := Eq.symm e0
    refine Ex_if_ne (t := 13) dX11_feels_8 rfl rfl (by omega) (fun c8 => absurd c8 (by omega)) (fun c8 => ?_)
    refine Ex_iconst dX11_feels_11 rfl ?_
    refine Ex_iret dX11_feels_12 rfl rfl ?_
    exact pst_same R hg ky
theorem x11_minute {E : am_E} {d : Nat} {h : Hp} {x y n : Nat} {hi m tu : Int} {kr : Nat → Nat} {K F T S C : Nat → Int} {c w : Int}  (Z : Scr h x hi) (R : RailAt h (x + 10) n m tu kr T S C) (hg : Rng n T S C) (ky : KY h y n kr K F) (hB : E.2 ≤ x) (hy : x + 57 ≤ y) (hc : (-2147483648 ≤ c ∧ c ≤ 2147483647)) (hw : (-2147483648 ≤ w ∧ w ≤ 2147483647)) (hm : 0 ≤ m ∧ m ≤ 100000)  : Ex E (d + 5) mX11_minute 0 [.ref x, .int (i32 c), .int (i32 w)] [] h (fun r1 h1 => Pst h h1 x y r1 (do_minute c w (n, m, K, F, T, S, C))) := by
  obtain ⟨⟨bs, z0⟩, z1, ⟨f2, z2⟩, ⟨f3, z3⟩, ⟨f4, z4⟩, ⟨f5, z5⟩, zr0, zr1, zr2, ⟨k5, t5, s5, c5, z55⟩, ⟨k6, t6, s6, c6, z56⟩⟩ := id Z
  obtain ⟨hr, hA, hP, hG, hn6⟩ := id R
  have kk := ky.ok (r := x + 10) (by omega)
  by_cases q : (0 ≤ c ∧ c < (n : Int)) ∧ 0 ≤ w ∧ w ≤ 3
  · obtain ⟨c, rfl⟩ := Int.eq_ofNat_of_zero_le (show 0 ≤ c by omega)
    have hcn : c < n := by omega
    have hgc := hg c hcn
    have kc := (kk c hcn).1
    by_cases q1 : S c < 7 ∧ m < 999
    · have ea : do_minute (c : Int) w (n, m, K, F, T, S, C) = (minT n c w K F T S C c, rsM c w (n, m, K, F, T, S, C)) := by unfold do_minute; rw [if_pos q]; exact if_pos q1
      rw [ea]
      refine Ex_aload_n dX11_minute_0 rfl rfl ?_
      refine Ex_getf dX11_minute_1 rfl (by first | exact z0 | exact hr | exact hA | exact hP _ (by omega)) rfl rfl rfl ?_
      refine Ex_iload_n dX11_minute_4 rfl rfl ?_
      refine Ex_inv 2 dX11_minute_5 rfl rfl (Or.inl rfl) rfl rfl rfl rfl hr rfl rfl rfl (Ex_post (x7_has R (by omega)) ?_)
      rintro _ _ ⟨rfl, e0⟩
      obtain rfl := Eq.symm e0
      refine Ex_if_eq (t := 20) dX11_minute_8 rfl rfl (by omega) (fun c8 => absurd c8 (by omega)) (fun c8 => ?_)
      refine Ex_iload_n dX11_minute_11 rfl rfl ?_
      refine Ex_iconst dX11_minute_12 rfl ?_
      refine Ex_iconst dX11_minute_13 rfl ?_
      refine Ex_stat 0 dX11_minute_14 rfl rfl (Or.inl rfl) rfl rfl rfl rfl rfl rfl (Ex_post (x11_within (by omega)) ?_)
      rintro _ _ ⟨rfl, e0⟩
      obtain rfl := Eq.symm e0
      refine Ex_if_ne (t := 22) dX11_minute_17 rfl rfl (by omega) (fun c17 => ?_) (fun c17 => absurd c17 (by omega))
      refine Ex_aload_n dX11_minute_22 rfl rfl ?_
      refine Ex_getf dX11_minute_23 rfl (by first | exact z0 | exact hr | exact hA | exact hP _ (by omega)) rfl rfl rfl ?_
      refine Ex_getf dX11_minute_26 rfl (by first | exact z0 | exact hr | exact hA | exact hP _ (by omega)) rfl rfl rfl ?_
      refine Ex_iload_n dX11_minute_29 rfl rfl ?_
      refine Ex_aald dX11_minute_30 rfl (by first | exact z0 | exact hr | exact hA | exact hP _ (by omega)) (by omega) (by omega) (rarr_get (by omega)) ?_
      refine Ex_inv 2 dX11_minute_31 rfl rfl (Or.inl rfl) rfl rfl rfl rfl (hP c hcn) rfl rfl rfl (Ex_post (x5_swims (hP c hcn) hgc.2.1) ?_)
      rintro _ _ ⟨rfl, e0⟩
      obtain rfl := Eq.symm e0
      refine Ex_if_ne (t := 50) dX11_minute_34 rfl rfl (by omega) (fun c34 => absurd c34 (by omega)) (fun c34 => ?_)
      refine Ex_aload_n dX11_minute_37 rfl rfl ?_
      refine Ex_getf dX11_minute_38 rfl (by first | exact z0 | exact hr | exact hA | exact hP _ (by omega)) rfl rfl rfl ?_
      refine Ex_getf dX11_minute_41 rfl (by first | exact z0 | exact hr | exact hA | exact hP _ (by omega)) rfl rfl rfl ?_
      refine Ex_sipush dX11_minute_44 rfl (by decide) ?_
      refine Ex_icmp_lt (t := 53) dX11_minute_47 rfl rfl (by omega) (fun c47 => ?_) (fun c47 => absurd c47 (by omega))
      refine Ex_aload_n dX11_minute_53 rfl rfl ?_
      refine Ex_getf dX11_minute_54 rfl (by first | exact z0 | exact hr | exact hA | exact hP _ (by omega)) rfl rfl rfl ?_
      refine Ex_iload_n dX11_minute_57 rfl rfl ?_
      refine Ex_iload_n dX11_minute_58 rfl rfl ?_
      refine Ex_inv 2 dX11_minute_59 rfl rfl (Or.inl rfl) rfl rfl rfl rfl (by first | exact z0 | exact hr | exact hA | exact hP _ (by omega)) rfl rfl rfl (Ex_post (x7_take R hg kk (by omega) hcn q1.1 (by omega)) ?_)
      rintro _ h9 ⟨rfl, R9, f9⟩
      refine Ex_pop dX11_minute_62 rfl rfl ?_
      refine Ex_aload_n dX11_minute_63 rfl rfl ?_
      refine Ex_getf dX11_minute_64 rfl ((f9.2 _ (by omega)).trans z0) rfl rfl rfl ?_
      refine Ex_getf dX11_minute_67 rfl R9.1 rfl rfl rfl ?_
      refine Ex_iload_n dX11_minute_70 rfl rfl ?_
      refine Ex_aald dX11_minute_71 rfl R9.2.1 (by omega) (by omega) (rarr_get (by omega)) ?_
      refine Ex_getf dX11_minute_72 rfl (R9.2.2.1 c hcn) rfl rfl rfl ?_
      refine Ex_iret dX11_minute_75 rfl rfl ?_
      exact ⟨rfl, ⟨kr, tu, R9, min_r hg (fun i hi => (ky i hi).1.2.2.2) hcn q1.1, ky.fr f9 (by omega)⟩, f9⟩
    · have ea : do_minute (c : Int) w (n, m, K, F, T, S, C) = (-3, (n, m, K, F, T, S, C)) := by unfold do_minute; rw [if_pos q]; exact if_neg q1
      rw [ea]
      refine Ex_aload_n dX11_minute_0 rfl rfl ?_
      refine Ex_getf dX11_minute_1 rfl (by first | exact z0 | exact hr | exact hA | exact hP _ (by omega)) rfl rfl rfl ?_
      refine Ex_iload_n dX11_minute_4 rfl rfl ?_
      refine Ex_inv 2 dX11_minute_5 rfl rfl (Or.inl rfl) rfl rfl rfl rfl hr rfl rfl rfl (Ex_post (x7_has R (by omega)) ?_)
      rintro _ _ ⟨rfl, e0⟩
      obtain rfl := Eq.symm e0
      refine Ex_if_eq (t := 20) dX11_minute_8 rfl rfl (by omega) (fun c8 => absurd c8 (by omega)) (fun c8 => ?_)
      refine Ex_iload_n dX11_minute_11 rfl rfl ?_
      refine Ex_iconst dX11_minute_12 rfl ?_
      refine Ex_iconst dX11_minute_13 rfl ?_
      refine Ex_stat 0 dX11_minute_14 rfl rfl (Or.inl rfl) rfl rfl rfl rfl rfl rfl (Ex_post (x11_within (by omega)) ?_)
      rintro _ _ ⟨rfl, e0⟩
      obtain rfl := Eq.symm e0
      refine Ex_if_ne (t := 22) dX11_minute_17 rfl rfl (by omega) (fun c17 => ?_) (fun c17 => absurd c17 (by omega))
      refine Ex_aload_n dX11_minute_22 rfl rfl ?_
      refine Ex_getf dX11_minute_23 rfl (by first | exact z0 | exact hr | exact hA | exact hP _ (by omega)) rfl rfl rfl ?_
      refine Ex_getf dX11_minute_26 rfl (by first | exact z0 | exact hr | exact hA | exact hP _ (by omega)) rfl rfl rfl ?_
      refine Ex_iload_n dX11_minute_29 rfl rfl ?_
      refine Ex_aald dX11_minute_30 rfl (by first | exact z0 | exact hr | exact hA | exact hP _ (by omega)) (by omega) (by omega) (rarr_get (by omega)) ?_
      refine Ex_inv 2 dX11_minute_31 rfl rfl (Or.inl rfl) rfl rfl rfl rfl (hP c hcn) rfl rfl rfl (Ex_post (x5_swims (hP c hcn) hgc.2.1) ?_)
      rintro _ _ ⟨rfl, e0⟩
      obtain rfl := Eq.symm e0
      refine Ex_if_ne (t := 50) dX11_minute_34 rfl rfl (by omega) (fun c34 => ?_) (fun c34 => ?_)
      · refine Ex_bipush dX11_minute_50 rfl (by decide) ?_
        refine Ex_iret dX11_minute_52 rfl rfl ?_
        exact pst_same R hg ky
      · refine Ex_aload_n dX11_minute_37 rfl rfl ?_
        refine Ex_getf dX11_minute_38 rfl (by first | exact z0 | exact hr | exact hA | exact hP _ (by omega)) rfl rfl rfl ?_
        refine Ex_getf dX11_minute_41 rfl (by first | exact z0 | exact hr | exact hA | exact hP _ (by omega)) rfl rfl rfl ?_
        refine Ex_sipush dX11_minute_44 rfl (by decide) ?_
        refine Ex_icmp_lt (t := 53) dX11_minute_47 rfl rfl (by omega) (fun c47 => ?_) (fun c47 => ?_)
        · exfalso; omega
        · refine Ex_bipush dX11_minute_50 rfl (by decide) ?_
          refine Ex_iret dX11_minute_52 rfl rfl ?_
          exact pst_same R hg ky
  · have ea : do_minute c w (n, m, K, F, T, S, C) = (-1, (n, m, K, F, T, S, C)) := by unfold do_minute; rw [if_neg q]
    rw [ea]
    refine Ex_aload_n dX11_minute_0 rfl rfl ?_
    refine Ex_getf dX11_minute_1 rfl (by first | exact z0 | exact hr | exact hA | exact hP _ (by omega)) rfl rfl rfl ?_
    refine Ex_iload_n dX11_minute_4 rfl rfl ?_
    refine Ex_inv 2 dX11_minute_5 rfl rfl (Or.inl rfl) rfl rfl rfl rfl hr rfl rfl rfl (Ex_post (x7_has R (by omega)) ?_)
    rintro _ _ ⟨rfl, e0⟩
    obtain rfl := Eq.symm e0
    refine Ex_if_eq (t := 20) dX11_minute_8 rfl rfl (by omega) (fun c8 => ?_) (fun c8 => ?_)
    · refine Ex_iconst dX11_minute_20 rfl ?_
      refine Ex_iret dX11_minute_21 rfl rfl ?_
      exact pst_same R hg ky
    · refine Ex_iload_n dX11_minute_11 rfl rfl ?_
      refine Ex_iconst dX11_minute_12 rfl ?_
      refine Ex_iconst dX11_minute_13 rfl ?_
      refine Ex_stat 0 dX11_minute_14 rfl rfl (Or.inl rfl) rfl rfl rfl rfl rfl rfl (Ex_post (x11_within (by omega)) ?_)
      rintro _ _ ⟨rfl, e0⟩
      obtain rfl := Eq.symm e0
      refine Ex_if_ne (t := 22) dX11_minute_17 rfl rfl (by omega) (fun c17 => ?_) (fun c17 => ?_)
      · exfalso; omega
      · refine Ex_iconst dX11_minute_20 rfl ?_
        refine Ex_iret dX11_minute_21 rfl rfl ?_
        exact pst_same R hg ky
theorem x11_change {E : am_E} {d : Nat} {h : Hp} {x y n : Nat} {hi m tu : Int} {kr : Nat → Nat} {K F T S C : Nat → Int} {a b : Int}  (Z : Scr h x hi) (R : RailAt h (x + 10) n m tu kr T S C) (hg : Rng n T S C) (ky : KY h y n kr K F) (hB : E.2 ≤ x) (hy : x + 57 ≤ y) (ha : (-2147483648 ≤ a ∧ a ≤ 2147483647)) (hb : (-2147483648 ≤ b ∧ b ≤ 2147483647))  : Ex E (d + 3) mX11_change 0 [.ref x, .int (i32 a), .int (i32 b)] [] h (fun r1 h1 => Pst h h1 x y r1 (do_change a b (n, m, K, F, T, S, C))) := by
  obtain ⟨⟨bs, z0⟩, z1, ⟨f2, z2⟩, ⟨f3, z3⟩, ⟨f4, z4⟩, ⟨f5, z5⟩, zr0, zr1, zr2, ⟨k5, t5, s5, c5, z55⟩, ⟨k6, t6, s6, c6, z56⟩⟩ := id Z
  obtain ⟨hr, hA, hP, hG, hn6⟩ := id R
  have kk := ky.ok (r := x + 10) (by omega)
  by_cases q : (0 ≤ a ∧ a < (n : Int)) ∧ (0 ≤ b ∧ b < (n : Int)) ∧ a ≠ b
  · have ea : do_change a b (n, m, K, F, T, S, C) = (1, rsX a.toNat b.toNat (n, m, K, F, T, S, C)) := by unfold do_change; exact if_pos q
    rw [ea]
    obtain ⟨a, rfl⟩ := Int.eq_ofNat_of_zero_le q.1.1
    obtain ⟨b, rfl⟩ := Int.eq_ofNat_of_zero_le q.2.1.1
    refine Ex_aload_n dX11_change_0 rfl rfl ?_
    refine Ex_getf dX11_change_1 rfl (by first | exact z0 | exact hr) rfl rfl rfl ?_
    refine Ex_iload_n dX11_change_4 rfl rfl ?_
    refine Ex_iload_n dX11_change_5 rfl rfl ?_
    refine Ex_inv 2 dX11_change_6 rfl rfl (Or.inl rfl) rfl rfl rfl rfl hr rfl rfl rfl (Ex_post (x7_hasTwo R (by omega) (by omega)) ?_)
    rintro _ _ ⟨rfl, e0⟩
    obtain rfl := Eq.symm e0
    refine Ex_if_ne (t := 14) dX11_change_9 rfl rfl (by first | (rw [if_pos q]; omega) | (rw [if_neg q]; omega)) (fun c9 => ?_) (fun c9 => absurd c9 (by first | (rw [if_pos q] at c9; omega) | (rw [if_neg q] at c9; omega)))
    refine Ex_aload_n dX11_change_14 rfl rfl ?_
    refine Ex_getf dX11_change_15 rfl (by first | exact z0 | exact hr) rfl rfl rfl ?_
    refine Ex_iload_n dX11_change_18 rfl rfl ?_
    refine Ex_iload_n dX11_change_19 rfl rfl ?_
    refine Ex_inv 2 dX11_change_20 rfl rfl (Or.inl rfl) rfl rfl rfl rfl hr rfl rfl rfl (Ex_post (x7_swap R (by omega) (by omega) (by omega) (by omega)) ?_)
    rintro _ h9 ⟨rfl, R9, f9⟩
    refine Ex_iconst dX11_change_23 rfl ?_
    refine Ex_iret dX11_change_24 rfl rfl ?_
    have k2 := ky.fr f9 (by omega)
    refine ⟨rfl, ⟨_, tu, R9, rng_sw hg (by omega) (by omega), ?_⟩, f9⟩
    intro i hi
    show KindAt h9 (swN kr a b i) (sw K a b i) (sw F a b i) ∧ y ≤ swN kr a b i
    unfold swN sw
    by_cases c1 : i = b
    · simp only [c1, if_true]; exact k2 a (by omega)
    · by_cases c2 : i = a
      · subst c2; simp only [c1, if_true, if_false]; exact k2 b (by omega)
      · simp only [c1, c2, if_false]; exact k2 i hi
  · have ea : do_change a b (n, m, K, F, T, S, C) = (-1, (n, m, K, F, T, S, C)) := by unfold do_change; exact if_neg q
    rw [ea]
    refine Ex_aload_n dX11_change_0 rfl rfl ?_
    refine Ex_getf dX11_change_1 rfl (by first | exact z0 | exact hr) rfl rfl rfl ?_
    refine Ex_iload_n dX11_change_4 rfl rfl ?_
    refine Ex_iload_n dX11_change_5 rfl rfl ?_
    refine Ex_inv 2 dX11_change_6 rfl rfl (Or.inl rfl) rfl rfl rfl rfl hr rfl rfl rfl (Ex_post (x7_hasTwo R (by omega) (by omega)) ?_)
    rintro _ _ ⟨rfl, e0⟩
    obtain rfl := Eq.symm e0
    refine Ex_if_ne (t := 14) dX11_change_9 rfl rfl (by first | (rw [if_pos q]; omega) | (rw [if_neg q]; omega)) (fun c9 => absurd c9 (by first | (rw [if_pos q] at c9; omega) | (rw [if_neg q] at c9; omega))) (fun c9 => ?_)
    refine Ex_iconst dX11_change_12 rfl ?_
    refine Ex_iret dX11_change_13 rfl rfl ?_
    exact pst_same R hg ky
theorem x11_rest {E : am_E} {d : Nat} {h : Hp} {x y n : Nat} {hi m tu : Int} {kr : Nat → Nat} {K F T S C : Nat → Int} {w : Int}  (Z : Scr h x hi) (R : RailAt h (x + 10) n m tu kr T S C) (hg : Rng n T S C) (ky : KY h y n kr K F) (hB : E.2 ≤ x) (hy : x + 57 ≤ y) (hw : (-2147483648 ≤ w ∧ w ≤ 2147483647))  : Ex E (d + 4) mX11_rest 0 [.ref x, .int (i32 w)] [] h (fun r1 h1 => Pst h h1 x y r1 (do_rest w (n, m, K, F, T, S, C))) := by
  obtain ⟨⟨bs, z0⟩, z1, ⟨f2, z2⟩, ⟨f3, z3⟩, ⟨f4, z4⟩, ⟨f5, z5⟩, zr0, zr1, zr2, ⟨k5, t5, s5, c5, z55⟩, ⟨k6, t6, s6, c6, z56⟩⟩ := id Z
  obtain ⟨hr, hA, hP, hG, hn6⟩ := id R
  have kk := ky.ok (r := x + 10) (by omega)
  by_cases q : 0 ≤ w ∧ w ≤ 9
  · have ea : do_rest w (n, m, K, F, T, S, C) = (sm (brS w n S) 0 n, rsB w (n, m, K, F, T, S, C)) := by unfold do_rest; exact if_pos q
    rw [ea]
    refine Ex_iload_n dX11_rest_0 rfl rfl ?_
    refine Ex_iconst dX11_rest_1 rfl ?_
    refine Ex_bipush dX11_rest_2 rfl (by decide) ?_
    refine Ex_stat 0 dX11_rest_4 rfl rfl (Or.inl rfl) rfl rfl rfl rfl rfl rfl (Ex_post (x11_within (by omega)) ?_)
    rintro _ _ ⟨rfl, e0⟩
    obtain rfl := Eq.symm e0
    refine Ex_if_ne (t := 12) dX11_rest_7 rfl rfl (by omega) (fun c7 => ?_) (fun c7 => absurd c7 (by omega))
    refine Ex_aload_n dX11_rest_12 rfl rfl ?_
    refine Ex_getf dX11_rest_13 rfl z0 rfl rfl rfl ?_
    refine Ex_iload_n dX11_rest_16 rfl rfl ?_
    refine Ex_inv 2 dX11_rest_17 rfl rfl (Or.inl rfl) rfl rfl rfl rfl hr rfl rfl rfl (Ex_post (x7_pause R hg (by omega) q) ?_)
    rintro _ h9 ⟨rfl, R9, f9⟩
    have hg9 := br_r (w := w) hg q.1
    refine Ex_aload_n dX11_rest_20 rfl rfl ?_
    refine Ex_getf dX11_rest_21 rfl ((f9.2 _ (by omega)).trans z0) rfl rfl rfl ?_
    refine Ex_inv 2 dX11_rest_24 rfl rfl (Or.inl rfl) rfl rfl rfl rfl R9.1 rfl rfl rfl (Ex_post (x7_allSteps R9 hg9) ?_)
    rintro _ _ ⟨rfl, e9⟩
    obtain rfl := Eq.symm e9
    refine Ex_iret dX11_rest_27 rfl rfl ?_
    exact ⟨rfl, ⟨kr, tu, R9, hg9, ky.fr f9 (by omega)⟩, f9⟩
  · have ea : do_rest w (n, m, K, F, T, S, C) = (-1, (n, m, K, F, T, S, C)) := by unfold do_rest; exact if_neg q
    rw [ea]
    refine Ex_iload_n dX11_rest_0 rfl rfl ?_
    refine Ex_iconst dX11_rest_1 rfl ?_
    refine Ex_bipush dX11_rest_2 rfl (by decide) ?_
    refine Ex_stat 0 dX11_rest_4 rfl rfl (Or.inl rfl) rfl rfl rfl rfl rfl rfl (Ex_post (x11_within (by omega)) ?_)
    rintro _ _ ⟨rfl, e0⟩
    obtain rfl := Eq.symm e0
    refine Ex_if_ne (t := 12) dX11_rest_7 rfl rfl (by omega) (fun c7 => absurd c7 (by omega)) (fun c7 => ?_)
    refine Ex_iconst dX11_rest_10 rfl ?_
    refine Ex_iret dX11_rest_11 rfl rfl ?_
    exact pst_same R hg ky
theorem x11_ready {E : am_E} {d : Nat} {h : Hp} {x y n : Nat} {hi m tu : Int} {kr : Nat → Nat} {K F T S C : Nat → Int}  (Z : Scr h x hi) (R : RailAt h (x + 10) n m tu kr T S C) (hg : Rng n T S C) (ky : KY h y n kr K F) (hB : E.2 ≤ x) (hy : x + 57 ≤ y)  : Ex E (d + 3) mX11_ready 0 [.ref x] [] h (fun r1 h1 => r1 = some (.int (i32 (bt (rdB K F T S) 0 n))) ∧ h1 = h) := by
  obtain ⟨⟨bs, z0⟩, z1, ⟨f2, z2⟩, ⟨f3, z3⟩, ⟨f4, z4⟩, ⟨f5, z5⟩, zr0, zr1, zr2, ⟨k5, t5, s5, c5, z55⟩, ⟨k6, t6, s6, c6, z56⟩⟩ := id Z
  obtain ⟨hr, hA, hP, hG, hn6⟩ := id R
  have kk := ky.ok (r := x + 10) (by omega)
  refine Ex_aload_n dX11_ready_0 rfl rfl ?_
  refine Ex_getf dX11_ready_1 rfl (by first | exact z0 | exact hr) rfl rfl rfl ?_
  refine Ex_inv 2 dX11_ready_4 rfl rfl (Or.inl rfl) rfl rfl rfl rfl (by first | exact z0 | exact hr) rfl rfl rfl (Ex_post (x7_readyBits R hg kk) ?_)
  rintro _ _ ⟨rfl, e0⟩
  obtain rfl := Eq.symm e0
  refine Ex_iret dX11_ready_7 rfl rfl ?_
  exact ⟨rfl, rfl⟩
theorem x11_helps_l {E : am_E} {d : Nat} {h : Hp} {x y n : Nat} {hi m tu : Int} {kr : Nat → Nat} {K F T S C : Nat → Int}  (Z : Scr h x hi) (R : RailAt h (x + 10) n m tu kr T S C) (hg : Rng n T S C) (ky : KY h y n kr K F) (hB : E.2 ≤ x) (hy : x + 57 ≤ y)  : ∀ (k : Nat) (c : Nat) (most best : Int) (v4 v5 : Value), c + k = n → -1 ≤ most ∧ most ≤ 6 → Ex E (d + 3) mX11_helps 7 [.ref x, .int (i32 most), .int (i32 best), .int (i32 (c : Int)), v4, v5] [] h (fun r1 h1 => r1 = some (.int (i32 (an_helps n K F T S c most best k))) ∧ h1 = h) := by
  obtain ⟨⟨bs, z0⟩, z1, ⟨f2, z2⟩, ⟨f3, z3⟩, ⟨f4, z4⟩, ⟨f5, z5⟩, zr0, zr1, zr2, ⟨k5, t5, s5, c5, z55⟩, ⟨k6, t6, s6, c6, z56⟩⟩ := id Z
  obtain ⟨hr, hA, hP, hG, hn6⟩ := id R
  have kk := ky.ok (r := x + 10) (by omega)
  intro k
  induction k with
  | zero =>
    intro c most best v4 v5 hk hm
    refine Ex_iload_n dX11_helps_7 rfl rfl ?_
    refine Ex_aload_n dX11_helps_8 rfl rfl ?_
    refine Ex_getf dX11_helps_9 rfl (by first | exact z0 | exact z1 | exact hr | exact hA | exact hP _ (by omega) | exact z2 | exact z3 | exact z4 | exact z5 | exact (kk _ (by omega)).1.1 | exact z55 | exact z56) rfl rfl rfl ?_
    refine Ex_getf dX11_helps_12 rfl (by first | exact z0 | exact z1 | exact hr | exact hA | exact hP _ (by omega) | exact z2 | exact z3 | exact z4 | exact z5 | exact (kk _ (by omega)).1.1 | exact z55 | exact z56) rfl rfl rfl ?_
    refine Ex_icmp_ge (t := 73) dX11_helps_15 rfl rfl (by omega) (fun c15 => ?_) (fun c15 => absurd c15 (by omega))
    refine Ex_iload_n dX11_helps_73 rfl rfl ?_
    refine Ex_iret dX11_helps_74 rfl rfl ?_
    exact ⟨rfl, rfl⟩
  | succ k ih =>
    intro c most best v4 v5 hk hm
    have hgc := hg c (by omega)
    have kc := (kk c (by omega)).1
    have hp := sp_passes_r (k := K c)
    have hnb : 0 ≤ nbr n c ∧ nbr n c ≤ 2 := by unfold nbr; split <;> split <;> omega
    have hpn : 0 ≤ sp_passes (K c) * nbr n c ∧ sp_passes (K c) * nbr n c ≤ 6 := by
      rcases (show nbr n c = 0 ∨ nbr n c = 1 ∨ nbr n c = 2 by omega) with e | e | e <;> rw [e] <;> omega
    by_cases q1 : (S c < 7 ∧ sp_needs (K c) (F c) (S c) ≤ T c) ∧ most < sp_passes (K c) * nbr n c
    · have ea : an_helps n K F T S c most best (k + 1) = an_helps n K F T S (c + 1) (sp_passes (K c) * nbr n c) (c : Int) k := by
        simp only [an_helps, rdB, decide_eq_true_eq]
        exact if_pos q1
      rw [ea]
      refine Ex_iload_n dX11_helps_7 rfl rfl ?_
      refine Ex_aload_n dX11_helps_8 rfl rfl ?_
      refine Ex_getf dX11_helps_9 rfl (by first | exact z0 | exact z1 | exact hr | exact hA | exact hP _ (by omega) | exact z2 | exact z3 | exact z4 | exact z5 | exact (kk _ (by omega)).1.1 | exact z55 | exact z56) rfl rfl rfl ?_
      refine Ex_getf dX11_helps_12 rfl (by first | exact z0 | exact z1 | exact hr | exact hA | exact hP _ (by omega) | exact z2 | exact z3 | exact z4 | exact z5 | exact (kk _ (by omega)).1.1 | exact z55 | exact z56) rfl rfl rfl ?_
      refine Ex_icmp_ge (t := 73) dX11_helps_15 rfl rfl (by omega) (fun c15 => absurd c15 (by omega)) (fun c15 => ?_)
      refine Ex_aload_n dX11_helps_18 rfl rfl ?_
      refine Ex_getf dX11_helps_19 rfl (by first | exact z0 | exact z1 | exact hr | exact hA | exact hP _ (by omega) | exact z2 | exact z3 | exact z4 | exact z5 | exact (kk _ (by omega)).1.1 | exact z55 | exact z56) rfl rfl rfl ?_
      refine Ex_getf dX11_helps_22 rfl (by first | exact z0 | exact z1 | exact hr | exact hA | exact hP _ (by omega) | exact z2 | exact z3 | exact z4 | exact z5 | exact (kk _ (by omega)).1.1 | exact z55 | exact z56) rfl rfl rfl ?_
      refine Ex_iload_n dX11_helps_25 rfl rfl ?_
      refine Ex_aald dX11_helps_26 rfl (by first | exact z0 | exact z1 | exact hr | exact hA | exact hP _ (by omega) | exact z2 | exact z3 | exact z4 | exact z5 | exact (kk _ (by omega)).1.1 | exact z55 | exact z56) (by omega) (by omega) (rarr_get (by omega)) ?_
      refine Ex_astore (L2 := [_, _, _, _, _, _]) dX11_helps_27 rfl rfl rfl ?_
      refine Ex_aload dX11_helps_29 rfl rfl ?_
      refine Ex_getf dX11_helps_31 rfl (by first | exact z0 | exact z1 | exact hr | exact hA | exact hP _ (by omega) | exact z2 | exact z3 | exact z4 | exact z5 | exact (kk _ (by omega)).1.1 | exact z55 | exact z56) rfl rfl rfl ?_
      refine Ex_getf dX11_helps_34 rfl (by first | exact z0 | exact z1 | exact hr | exact hA | exact hP _ (by omega) | exact z2 | exact z3 | exact z4 | exact z5 | exact (kk _ (by omega)).1.1 | exact z55 | exact z56) rfl (ktag_in _) rfl ?_
      refine Ex_aload_n dX11_helps_37 rfl rfl ?_
      refine Ex_getf dX11_helps_38 rfl (by first | exact z0 | exact z1 | exact hr | exact hA | exact hP _ (by omega) | exact z2 | exact z3 | exact z4 | exact z5 | exact (kk _ (by omega)).1.1 | exact z55 | exact z56) rfl rfl rfl ?_
      refine Ex_iload_n dX11_helps_41 rfl rfl ?_
      refine Ex_inv 2 dX11_helps_42 rfl rfl (Or.inl rfl) rfl rfl rfl rfl hr rfl rfl rfl (Ex_post (x7_neighbours R (by omega)) ?_)
      rintro _ _ ⟨rfl, e0⟩
      obtain rfl := Eq.symm e0
      rw [show ((if 0 < c then 1 else 0) + (if c + 1 < n then 1 else 0) : Int) = nbr n c from rfl]
      refine Ex_imul dX11_helps_45 rfl ?_
      refine Ex_istore (L2 := [_, _, _, _, _, _]) dX11_helps_46 rfl rfl rfl ?_
      refine Ex_aload dX11_helps_48 rfl rfl ?_
      refine Ex_inv 2 dX11_helps_50 rfl rfl (Or.inl rfl) rfl rfl rfl rfl (hP c (by omega)) rfl rfl rfl (Ex_post (x5_isReady (hP c (by omega)) hgc.1 hgc.2.1 kc) ?_)
      rintro _ _ ⟨rfl, e0⟩
      obtain rfl := Eq.symm e0
      refine Ex_if_eq (t := 67) dX11_helps_53 rfl rfl (by rw [if_pos q1.1]; omega) (fun c53 => absurd c53 (by rw [if_pos q1.1] at c53; omega)) (fun c53 => ?_)
      refine Ex_iload dX11_helps_56 rfl rfl ?_
      refine Ex_iload_n dX11_helps_58 rfl rfl ?_
      refine Ex_icmp_le (t := 67) dX11_helps_59 rfl rfl (by omega) (fun c59 => absurd c59 (by omega)) (fun c59 => ?_)
      refine Ex_iload dX11_helps_62 rfl rfl ?_
      refine Ex_istore_n (L2 := [_, _, _, _, _, _]) dX11_helps_64 rfl rfl rfl ?_
      refine Ex_iload_n dX11_helps_65 rfl rfl ?_
      refine Ex_istore_n (L2 := [_, _, _, _, _, _]) dX11_helps_66 rfl rfl rfl ?_
      refine Ex_iinc (L2 := [_, _, _, _, _, _]) dX11_helps_67 rfl rfl rfl ?_
      refine Ex_goto (t := 7) dX11_helps_70 rfl ?_
      exact ih (c + 1) _ _ _ _ (by omega) (by omega)
    · have ea : an_helps n K F T S c most best (k + 1) = an_helps n K F T S (c + 1) most best k := by
        simp only [an_helps, rdB, decide_eq_true_eq]
        exact if_neg q1
      rw [ea]
      refine Ex_iload_n dX11_helps_7 rfl rfl ?_
      refine Ex_aload_n dX11_helps_8 rfl rfl ?_
      refine Ex_getf dX11_helps_9 rfl (by first | exact z0 | exact z1 | exact hr | exact hA | exact hP _ (by omega) | exact z2 | exact z3 | exact z4 | exact z5 | exact (kk _ (by omega)).1.1 | exact z55 | exact z56) rfl rfl rfl ?_
      refine Ex_getf dX11_helps_12 rfl (by first | exact z0 | exact z1 | exact hr | exact hA | exact hP _ (by omega) | exact z2 | exact z3 | exact z4 | exact z5 | exact (kk _ (by omega)).1.1 | exact z55 | exact z56) rfl rfl rfl ?_
      refine Ex_icmp_ge (t := 73) dX11_helps_15 rfl rfl (by omega) (fun c15 => absurd c15 (by omega)) (fun c15 => ?_)
      refine Ex_aload_n dX11_helps_18 rfl rfl ?_
      refine Ex_getf dX11_helps_19 rfl (by first | exact z0 | exact z1 | exact hr | exact hA | exact hP _ (by omega) | exact z2 | exact z3 | exact z4 | exact z5 | exact (kk _ (by omega)).1.1 | exact z55 | exact z56) rfl rfl rfl ?_
      refine Ex_getf dX11_helps_22 rfl (by first | exact z0 | exact z1 | exact hr | exact hA | exact hP _ (by omega) | exact z2 | exact z3 | exact z4 | exact z5 | exact (kk _ (by omega)).1.1 | exact z55 | exact z56) rfl rfl rfl ?_
      refine Ex_iload_n dX11_helps_25 rfl rfl ?_
      refine Ex_aald dX11_helps_26 rfl (by first | exact z0 | exact z1 | exact hr | exact hA | exact hP _ (by omega) | exact z2 | exact z3 | exact z4 | exact z5 | exact (kk _ (by omega)).1.1 | exact z55 | exact z56) (by omega) (by omega) (rarr_get (by omega)) ?_
      refine Ex_astore (L2 := [_, _, _, _, _, _]) dX11_helps_27 rfl rfl rfl ?_
      refine Ex_aload dX11_helps_29 rfl rfl ?_
      refine Ex_getf dX11_helps_31 rfl (by first | exact z0 | exact z1 | exact hr | exact hA | exact hP _ (by omega) | exact z2 | exact z3 | exact z4 | exact z5 | exact (kk _ (by omega)).1.1 | exact z55 | exact z56) rfl rfl rfl ?_
      refine Ex_getf dX11_helps_34 rfl (by first | exact z0 | exact z1 | exact hr | exact hA | exact hP _ (by omega) | exact z2 | exact z3 | exact z4 | exact z5 | exact (kk _ (by omega)).1.1 | exact z55 | exact z56) rfl (ktag_in _) rfl ?_
      refine Ex_aload_n dX11_helps_37 rfl rfl ?_
      refine Ex_getf dX11_helps_38 rfl (by first | exact z0 | exact z1 | exact hr | exact hA | exact hP _ (by omega) | exact z2 | exact z3 | exact z4 | exact z5 | exact (kk _ (by omega)).1.1 | exact z55 | exact z56) rfl rfl rfl ?_
      refine Ex_iload_n dX11_helps_41 rfl rfl ?_
      refine Ex_inv 2 dX11_helps_42 rfl rfl (Or.inl rfl) rfl rfl rfl rfl hr rfl rfl rfl (Ex_post (x7_neighbours R (by omega)) ?_)
      rintro _ _ ⟨rfl, e0⟩
      obtain rfl := Eq.symm e0
      rw [show ((if 0 < c then 1 else 0) + (if c + 1 < n then 1 else 0) : Int) = nbr n c from rfl]
      refine Ex_imul dX11_helps_45 rfl ?_
      refine Ex_istore (L2 := [_, _, _, _, _, _]) dX11_helps_46 rfl rfl rfl ?_
      refine Ex_aload dX11_helps_48 rfl rfl ?_
      refine Ex_inv 2 dX11_helps_50 rfl rfl (Or.inl rfl) rfl rfl rfl rfl (hP c (by omega)) rfl rfl rfl (Ex_post (x5_isReady (hP c (by omega)) hgc.1 hgc.2.1 kc) ?_)
      rintro _ _ ⟨rfl, e0⟩
      obtain rfl := Eq.symm e0
      refine Ex_if_eq (t := 67) dX11_helps_53 rfl rfl (by split <;> omega) (fun c53 => ?_) (fun c53 => ?_)
      · refine Ex_iinc (L2 := [_, _, _, _, _, _]) dX11_helps_67 rfl rfl rfl ?_
        refine Ex_goto (t := 7) dX11_helps_70 rfl ?_
        exact ih (c + 1) _ _ _ _ (by omega) (by omega)
      · refine Ex_iload dX11_helps_56 rfl rfl ?_
        refine Ex_iload_n dX11_helps_58 rfl rfl ?_
        refine Ex_icmp_le (t := 67) dX11_helps_59 rfl rfl (by omega) (fun c59 => ?_) (fun c59 => ?_)
        · refine Ex_iinc (L2 := [_, _, _, _, _, _]) dX11_helps_67 rfl rfl rfl ?_
          refine Ex_goto (t := 7) dX11_helps_70 rfl ?_
          exact ih (c + 1) _ _ _ _ (by omega) (by omega)
        · exfalso
          refine q1 ⟨?_, by omega⟩
          by_cases q3 : S c < 7 ∧ sp_needs (K c) (F c) (S c) ≤ T c
          · exact q3
          · rw [if_neg q3] at c53; omega
theorem x11_helps {E : am_E} {d : Nat} {h : Hp} {x y n : Nat} {hi m tu : Int} {kr : Nat → Nat} {K F T S C : Nat → Int}  (Z : Scr h x hi) (R : RailAt h (x + 10) n m tu kr T S C) (hg : Rng n T S C) (ky : KY h y n kr K F) (hB : E.2 ≤ x) (hy : x + 57 ≤ y)  : Ex E (d + 3) mX11_helps 0 [.ref x, .retAddr 0, .retAddr 0, .retAddr 0, .retAddr 0, .retAddr 0] [] h (fun r1 h1 => r1 = some (.int (i32 (an_helps n K F T S 0 (-1) (-4) n))) ∧ h1 = h) := by
  refine Ex_iconst dX11_helps_0 rfl ?_
  refine Ex_istore_n (L2 := [_, _, _, _, _, _]) dX11_helps_1 rfl rfl rfl ?_
  refine Ex_bipush dX11_helps_2 rfl (by decide) ?_
  refine Ex_istore_n (L2 := [_, _, _, _, _, _]) dX11_helps_4 rfl rfl rfl ?_
  refine Ex_iconst dX11_helps_5 rfl ?_
  refine Ex_istore_n (L2 := [_, _, _, _, _, _]) dX11_helps_6 rfl rfl rfl ?_
  exact x11_helps_l Z R hg ky hB hy n 0 (-1) (-4) _ _ (by omega) (by omega)
