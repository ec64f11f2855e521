/-! the reference: simple calls (by program: wip/whole/spec_re.py) -/
theorem x12_child {E : am_E} {d : Nat} {h : Hp} {m n : Nat} {mm hi : Int} {K F T S C : Nat → Int} {σ : Nat → Nat → Int} {c w : Int}  (I : MI h m (n, mm, K, F, T, S, C) hi σ) (hn6 : n ≤ 6) (hg : Rng n T S C) (hK : ∀ i, i < n → (0 ≤ K i ∧ K i ≤ 7) ∧ (0 ≤ F i ∧ F i ≤ 9)) (hB : E.2 ≤ m) (hc : (-2147483648 ≤ c ∧ c ≤ 2147483647)) (hw : (-2147483648 ≤ w ∧ w ≤ 2147483647))  : Ex E (d + 2) mX12_child 0 [.ref m, .int (i32 c), .int (i32 w)] [] h (fun r1 h1 => r1 = some (.int (i32 (an_child n K F T S C c w))) ∧ MI h1 m (n, mm, K, F, T, S, C) hi σ ∧ Fr h h1 m (m + 23)) := by
  obtain ⟨g, ρ, kp, M, hn, h6, h23, hσ⟩ := I
  have M : MAt h m g K F T S C ρ kp := M
  have hn : g 0 = (n : Int) := hn
  have h6 : g 6 = mm := h6
  by_cases q : 0 ≤ c ∧ c < (n : Int)
  · obtain ⟨c, rfl⟩ := Int.eq_ofNat_of_zero_le (show 0 ≤ c by omega)
    have hc : c < n := by omega
    have hgc := hg c hc
    have hKc := hK c hc
    have ea : an_child n K F T S C (c : Int) w = (if w = 0 then K c else if w = 1 then F c else if w = 2 then T c else if w = 3 then S c else if w = 4 then C c else if w = 5 then sp_holds (K c) (F c) else if w = 6 then sp_nd (K c) (F c) (S c) else if w = 7 then sp_fright (K c) (F c) else if w = 8 then sp_bears (K c) (F c) else if w = 9 then sp_passes (K c) else -1) := by unfold an_child; rw [if_pos q]; rfl
    rw [ea]
    refine Ex_aload_n dX12_child_0 rfl rfl ?_
    refine Ex_iconst dX12_child_1 rfl ?_
    refine Ex_put12 (k0 := 13) (v := 0) dX12_child_2 rfl (ma0 M) rfl rfl rfl rfl rfl (by omega) rfl ?_
    refine mg0 M ?_
    intro h1_ M1_ f1_
    refine Ex_aload_n dX12_child_5 rfl rfl ?_
    refine Ex_iload_n dX12_child_6 rfl rfl ?_
    refine Ex_inv 2 dX12_child_7 rfl rfl (Or.inl rfl) rfl rfl rfl rfl (ma0 M1_) rfl rfl rfl (Ex_post (x12_isChild M1_ hn hn6 (by omega)) ?_)
    rintro _ _ ⟨rfl, e0⟩
    obtain rfl := Eq.symm e0
    refine Ex_if_ne (t := 15) dX12_child_10 rfl rfl (by omega) (fun c10 => ?_) (fun c10 => absurd c10 (by omega))
    refine Ex_iload_n dX12_child_15 rfl rfl ?_
    rcases (show w = 0 ∨ w = 1 ∨ w = 2 ∨ w = 3 ∨ w = 4 ∨ w = 5 ∨ w = 6 ∨ w = 7 ∨ w = 8 ∨ w = 9 ∨ (w < 0 ∨ 9 < w) by omega) with e | e | e | e | e | e | e | e | e | e | e
    · subst e
      refine Ex_tabIn (off := 56) (t := 72) (0) dX12_child_16 rfl (by omega) (by omega) rfl rfl ?_
      refine Ex_aload_n dX12_child_72 rfl rfl ?_
      refine Ex_getf dX12_child_73 rfl (ma0 M1_) rfl rfl rfl ?_
      refine Ex_iload_n dX12_child_76 rfl rfl ?_
      refine Ex_iald12 dX12_child_77 rfl (ma1 M1_) rfl (by omega) ?_
      refine Ex_iret dX12_child_78 rfl rfl ?_
      exact ⟨ri (by simp), ⟨_, _, _, M1_, hn, h6, h23, hσ⟩, f1_⟩
    · subst e
      refine Ex_tabIn (off := 63) (t := 79) (1) dX12_child_16 rfl (by omega) (by omega) rfl rfl ?_
      refine Ex_aload_n dX12_child_79 rfl rfl ?_
      refine Ex_getf dX12_child_80 rfl (ma0 M1_) rfl rfl rfl ?_
      refine Ex_iload_n dX12_child_83 rfl rfl ?_
      refine Ex_iald12 dX12_child_84 rfl (ma2 M1_) rfl (by omega) ?_
      refine Ex_iret dX12_child_85 rfl rfl ?_
      exact ⟨ri (by simp), ⟨_, _, _, M1_, hn, h6, h23, hσ⟩, f1_⟩
    · subst e
      refine Ex_tabIn (off := 70) (t := 86) (2) dX12_child_16 rfl (by omega) (by omega) rfl rfl ?_
      refine Ex_aload_n dX12_child_86 rfl rfl ?_
      refine Ex_getf dX12_child_87 rfl (ma0 M1_) rfl rfl rfl ?_
      refine Ex_iload_n dX12_child_90 rfl rfl ?_
      refine Ex_iald12 dX12_child_91 rfl (ma3 M1_) rfl (by omega) ?_
      refine Ex_iret dX12_child_92 rfl rfl ?_
      exact ⟨ri (by simp), ⟨_, _, _, M1_, hn, h6, h23, hσ⟩, f1_⟩
    · subst e
      refine Ex_tabIn (off := 77) (t := 93) (3) dX12_child_16 rfl (by omega) (by omega) rfl rfl ?_
      refine Ex_aload_n dX12_child_93 rfl rfl ?_
      refine Ex_getf dX12_child_94 rfl (ma0 M1_) rfl rfl rfl ?_
      refine Ex_iload_n dX12_child_97 rfl rfl ?_
      refine Ex_iald12 dX12_child_98 rfl (ma4 M1_) rfl (by omega) ?_
      refine Ex_iret dX12_child_99 rfl rfl ?_
      exact ⟨ri (by simp), ⟨_, _, _, M1_, hn, h6, h23, hσ⟩, f1_⟩
    · subst e
      refine Ex_tabIn (off := 84) (t := 100) (4) dX12_child_16 rfl (by omega) (by omega) rfl rfl ?_
      refine Ex_aload_n dX12_child_100 rfl rfl ?_
      refine Ex_getf dX12_child_101 rfl (ma0 M1_) rfl rfl rfl ?_
      refine Ex_iload_n dX12_child_104 rfl rfl ?_
      refine Ex_iald12 dX12_child_105 rfl (ma5 M1_) rfl (by omega) ?_
      refine Ex_iret dX12_child_106 rfl rfl ?_
      exact ⟨ri (by simp), ⟨_, _, _, M1_, hn, h6, h23, hσ⟩, f1_⟩
    · subst e
      refine Ex_tabIn (off := 91) (t := 107) (5) dX12_child_16 rfl (by omega) (by omega) rfl rfl ?_
      refine Ex_aload_n dX12_child_107 rfl rfl ?_
      refine Ex_iload_n dX12_child_108 rfl rfl ?_
      refine Ex_inv 2 dX12_child_109 rfl rfl (Or.inl rfl) rfl rfl rfl rfl (ma0 M1_) rfl rfl rfl (Ex_post (x12_holdsOf M1_ hn6 hK hc) ?_)
      rintro _ _ ⟨rfl, e0⟩
      obtain rfl := Eq.symm e0
      refine Ex_iret dX12_child_112 rfl rfl ?_
      exact ⟨ri (by simp), ⟨_, _, _, M1_, hn, h6, h23, hσ⟩, f1_⟩
    · subst e
      refine Ex_tabIn (off := 97) (t := 113) (6) dX12_child_16 rfl (by omega) (by omega) rfl rfl ?_
      refine Ex_aload_n dX12_child_113 rfl rfl ?_
      refine Ex_getf dX12_child_114 rfl (ma0 M1_) rfl rfl rfl ?_
      refine Ex_iload_n dX12_child_117 rfl rfl ?_
      refine Ex_iald12 dX12_child_118 rfl (ma4 M1_) rfl (by omega) ?_
      refine Ex_bipush dX12_child_119 rfl (by decide) ?_
      refine Ex_icmp_ne (t := 128) dX12_child_121 rfl rfl (by omega) (fun c121 => ?_) (fun c121 => ?_)
      · refine Ex_aload_n dX12_child_128 rfl rfl ?_
        refine Ex_iload_n dX12_child_129 rfl rfl ?_
        refine Ex_inv 2 dX12_child_130 rfl rfl (Or.inl rfl) rfl rfl rfl rfl (ma0 M1_) rfl rfl rfl (Ex_post (x12_needsOf M1_ hn6 hg hK hc) ?_)
        rintro _ _ ⟨rfl, e0⟩
        obtain rfl := Eq.symm e0
        refine Ex_iret dX12_child_133 rfl rfl ?_
        exact ⟨ri (by simp; unfold sp_nd; first | rw [if_pos (by omega)] | rw [if_neg (by omega)]), ⟨_, _, _, M1_, hn, h6, h23, hσ⟩, f1_⟩
      · refine Ex_iconst dX12_child_124 rfl ?_
        refine Ex_goto (t := 133) dX12_child_125 rfl ?_
        refine Ex_iret dX12_child_133 rfl rfl ?_
        exact ⟨ri (by simp; unfold sp_nd; first | rw [if_pos (by omega)] | rw [if_neg (by omega)]), ⟨_, _, _, M1_, hn, h6, h23, hσ⟩, f1_⟩
    · subst e
      refine Ex_tabIn (off := 118) (t := 134) (7) dX12_child_16 rfl (by omega) (by omega) rfl rfl ?_
      refine Ex_aload_n dX12_child_134 rfl rfl ?_
      refine Ex_iload_n dX12_child_135 rfl rfl ?_
      refine Ex_inv 2 dX12_child_136 rfl rfl (Or.inl rfl) rfl rfl rfl rfl (ma0 M1_) rfl rfl rfl (Ex_post (x12_frightOf M1_ hn6 hK hc) ?_)
      rintro _ _ ⟨rfl, e0⟩
      obtain rfl := Eq.symm e0
      refine Ex_iret dX12_child_139 rfl rfl ?_
      exact ⟨ri (by simp), ⟨_, _, _, M1_, hn, h6, h23, hσ⟩, f1_⟩
    · subst e
      refine Ex_tabIn (off := 124) (t := 140) (8) dX12_child_16 rfl (by omega) (by omega) rfl rfl ?_
      refine Ex_aload_n dX12_child_140 rfl rfl ?_
      refine Ex_iload_n dX12_child_141 rfl rfl ?_
      refine Ex_inv 2 dX12_child_142 rfl rfl (Or.inl rfl) rfl rfl rfl rfl (ma0 M1_) rfl rfl rfl (Ex_post (x12_bearsOf M1_ hn6 hK hc) ?_)
      rintro _ _ ⟨rfl, e0⟩
      obtain rfl := Eq.symm e0
      refine Ex_iret dX12_child_145 rfl rfl ?_
      exact ⟨ri (by simp), ⟨_, _, _, M1_, hn, h6, h23, hσ⟩, f1_⟩
    · subst e
      refine Ex_tabIn (off := 130) (t := 146) (9) dX12_child_16 rfl (by omega) (by omega) rfl rfl ?_
      refine Ex_aload_n dX12_child_146 rfl rfl ?_
      refine Ex_iload_n dX12_child_147 rfl rfl ?_
      refine Ex_inv 2 dX12_child_148 rfl rfl (Or.inl rfl) rfl rfl rfl rfl (ma0 M1_) rfl rfl rfl (Ex_post (x12_passesOf M1_ hn6 hK hc) ?_)
      rintro _ _ ⟨rfl, e0⟩
      obtain rfl := Eq.symm e0
      refine Ex_iret dX12_child_151 rfl rfl ?_
      exact ⟨ri (by simp), ⟨_, _, _, M1_, hn, h6, h23, hσ⟩, f1_⟩
    · refine Ex_tabOut (t := 152) dX12_child_16 rfl (by omega) e ?_
      refine Ex_iconst dX12_child_152 rfl ?_
      refine Ex_iret dX12_child_153 rfl rfl ?_
      exact ⟨ri (by repeat' rw [if_neg (by omega)]), ⟨_, _, _, M1_, hn, h6, h23, hσ⟩, f1_⟩
  · refine Ex_aload_n dX12_child_0 rfl rfl ?_
    refine Ex_iconst dX12_child_1 rfl ?_
    refine Ex_put12 (k0 := 13) (v := 0) dX12_child_2 rfl (ma0 M) rfl rfl rfl rfl rfl (by omega) rfl ?_
    refine mg0 M ?_
    intro h1_ M1_ f1_
    refine Ex_aload_n dX12_child_5 rfl rfl ?_
    refine Ex_iload_n dX12_child_6 rfl rfl ?_
    refine Ex_inv 2 dX12_child_7 rfl rfl (Or.inl rfl) rfl rfl rfl rfl (ma0 M1_) rfl rfl rfl (Ex_post (x12_isChild M1_ hn hn6 (by omega)) ?_)
    rintro _ _ ⟨rfl, e0⟩
    obtain rfl := Eq.symm e0
    refine Ex_if_ne (t := 15) dX12_child_10 rfl rfl (by omega) (fun c10 => absurd c10 (by omega)) (fun c10 => ?_)
    refine Ex_iconst dX12_child_13 rfl ?_
    refine Ex_iret dX12_child_14 rfl rfl ?_
    exact ⟨ri (by unfold an_child; rw [if_neg q]), ⟨_, _, _, M1_, hn, h6, h23, hσ⟩, f1_⟩
theorem x12_feels {E : am_E} {d : Nat} {h : Hp} {m n : Nat} {mm hi : Int} {K F T S C : Nat → Int} {σ : Nat → Nat → Int} {c w v : Int}  (I : MI h m (n, mm, K, F, T, S, C) hi σ) (hn6 : n ≤ 6) (hg : Rng n T S C) (hK : ∀ i, i < n → (0 ≤ K i ∧ K i ≤ 7) ∧ (0 ≤ F i ∧ F i ≤ 9)) (hB : E.2 ≤ m) (hc : (-2147483648 ≤ c ∧ c ≤ 2147483647)) (hw : (-2147483648 ≤ w ∧ w ≤ 2147483647)) (hv : (-2147483648 ≤ v ∧ v ≤ 2147483647))  : Ex E (d + 2) mX12_feels 0 [.ref m, .int (i32 c), .int (i32 w), .int (i32 v), .retAddr 0] [] h (fun r1 h1 => r1 = some (.int (i32 (do_feels c w v (n, mm, K, F, T, S, C)).1)) ∧ MI h1 m (do_feels c w v (n, mm, K, F, T, S, C)).2 hi σ ∧ Fr h h1 m (m + 23)) := by
  obtain ⟨g, ρ, kp, M, hn, h6, h23, hσ⟩ := I
  have M : MAt h m g K F T S C ρ kp := M
  have hn : g 0 = (n : Int) := hn
  have h6 : g 6 = mm := h6
  by_cases q : 0 ≤ c ∧ c < (n : Int)
  · obtain ⟨c, rfl⟩ := Int.eq_ofNat_of_zero_le (show 0 ≤ c by omega)
    have hc : c < n := by omega
    have hgc := hg c hc
    have hKc := hK c hc
    by_cases q1 : w = 0 ∧ 0 ≤ v ∧ v ≤ 20
    · have ea : do_feels (c : Int) w v (n, mm, K, F, T, S, C) = (T c, rsT c v (n, mm, K, F, T, S, C)) := by unfold do_feels; rw [if_pos q, if_pos q1]; rfl
      rw [ea]
      refine Ex_aload_n dX12_feels_0 rfl rfl ?_
      refine Ex_iconst dX12_feels_1 rfl ?_
      refine Ex_put12 (k0 := 13) (v := 0) dX12_feels_2 rfl (ma0 M) rfl rfl rfl rfl rfl (by omega) rfl ?_
      refine mg0 M ?_
      intro h1_ M1_ f1_
      refine Ex_aload_n dX12_feels_5 rfl rfl ?_
      refine Ex_iload_n dX12_feels_6 rfl rfl ?_
      refine Ex_inv 2 dX12_feels_7 rfl rfl (Or.inl rfl) rfl rfl rfl rfl (ma0 M1_) rfl rfl rfl (Ex_post (x12_isChild M1_ hn hn6 (by omega)) ?_)
      rintro _ _ ⟨rfl, e0⟩
      obtain rfl := Eq.symm e0
      refine Ex_if_eq (t := 45) dX12_feels_10 rfl rfl (by omega) (fun c10 => absurd c10 (by omega)) (fun c10 => ?_)
      refine Ex_iload_n dX12_feels_13 rfl rfl ?_
      refine Ex_i2l dX12_feels_14 rfl (by omega) ?_
      refine Ex_lconst (z := 0) dX12_feels_15 rfl (by decide) ?_
      refine Ex_lconst (z := 1) dX12_feels_16 rfl (by decide) ?_
      refine Ex_stat 0 dX12_feels_17 rfl rfl (Or.inl rfl) rfl rfl rfl rfl rfl rfl (Ex_post (x12_in (by omega) (by omega) (by omega)) ?_)
      rintro _ _ ⟨rfl, e0⟩
      obtain rfl := Eq.symm e0
      refine Ex_if_eq (t := 45) dX12_feels_20 rfl rfl (by omega) (fun c20 => absurd c20 (by omega)) (fun c20 => ?_)
      refine Ex_iload_n dX12_feels_23 rfl rfl ?_
      refine Ex_i2l dX12_feels_24 rfl (by omega) ?_
      refine Ex_lconst (z := 0) dX12_feels_25 rfl (by decide) ?_
      refine Ex_iload_n dX12_feels_26 rfl rfl ?_
      refine Ex_if_ne (t := 36) dX12_feels_27 rfl rfl (by omega) (fun c27 => absurd c27 (by omega)) (fun c27 => ?_)
      refine Ex_ldc2 (z := 20) dX12_feels_30 rfl rfl ?_
      refine Ex_goto (t := 39) dX12_feels_33 rfl ?_
      refine Ex_stat 0 dX12_feels_39 rfl rfl (Or.inl rfl) rfl rfl rfl rfl rfl rfl (Ex_post (x12_in (by omega) (by omega) (by omega)) ?_)
      rintro _ _ ⟨rfl, e0⟩
      obtain rfl := Eq.symm e0
      refine Ex_if_ne (t := 47) dX12_feels_42 rfl rfl (by omega) (fun c42 => ?_) (fun c42 => absurd c42 (by omega))
      refine Ex_iload_n dX12_feels_47 rfl rfl ?_
      refine Ex_if_ne (t := 60) dX12_feels_48 rfl rfl (by omega) (fun c48 => absurd c48 (by omega)) (fun c48 => ?_)
      refine Ex_aload_n dX12_feels_51 rfl rfl ?_
      refine Ex_getf dX12_feels_52 rfl (ma0 M1_) rfl rfl rfl ?_
      refine Ex_iload_n dX12_feels_55 rfl rfl ?_
      refine Ex_iald12 dX12_feels_56 rfl (ma3 M1_) rfl (by omega) ?_
      refine Ex_goto (t := 66) dX12_feels_57 rfl ?_
      refine Ex_istore (L2 := [_, _, _, _, _]) dX12_feels_66 rfl rfl rfl ?_
      refine Ex_iload_n dX12_feels_68 rfl rfl ?_
      refine Ex_if_ne (t := 82) dX12_feels_69 rfl rfl (by omega) (fun c69 => absurd c69 (by omega)) (fun c69 => ?_)
      refine Ex_aload_n dX12_feels_72 rfl rfl ?_
      refine Ex_getf dX12_feels_73 rfl (ma0 M1_) rfl rfl rfl ?_
      refine Ex_iload_n dX12_feels_76 rfl rfl ?_
      refine Ex_iload_n dX12_feels_77 rfl rfl ?_
      refine Ex_iast12 dX12_feels_78 rfl (ma3 M1_) rfl (by omega) (by omega) ?_
      refine mg3 M1_ ?_
      intro h2_ M2_ f2_
      refine Ex_goto (t := 89) dX12_feels_79 rfl ?_
      refine Ex_iload dX12_feels_89 rfl rfl ?_
      refine Ex_iret dX12_feels_91 rfl rfl ?_
      exact ⟨rfl, ⟨_, _, _, M2_, hn, h6, h23, hσ⟩, (f1_.trans f2_)⟩
    · by_cases q2 : w = 1 ∧ 0 ≤ v ∧ v ≤ 7
      · have ea : do_feels (c : Int) w v (n, mm, K, F, T, S, C) = (S c, rsS c v (n, mm, K, F, T, S, C)) := by unfold do_feels; rw [if_pos q, if_neg q1, if_pos q2]; rfl
        rw [ea]
        refine Ex_aload_n dX12_feels_0 rfl rfl ?_
        refine Ex_iconst dX12_feels_1 rfl ?_
        refine Ex_put12 (k0 := 13) (v := 0) dX12_feels_2 rfl (ma0 M) rfl rfl rfl rfl rfl (by omega) rfl ?_
        refine mg0 M ?_
        intro h1_ M1_ f1_
        refine Ex_aload_n dX12_feels_5 rfl rfl ?_
        refine Ex_iload_n dX12_feels_6 rfl rfl ?_
        refine Ex_inv 2 dX12_feels_7 rfl rfl (Or.inl rfl) rfl rfl rfl rfl (ma0 M1_) rfl rfl rfl (Ex_post (x12_isChild M1_ hn hn6 (by omega)) ?_)
        rintro _ _ ⟨rfl, e0⟩
        obtain rfl := Eq.symm e0
        refine Ex_if_eq (t := 45) dX12_feels_10 rfl rfl (by omega) (fun c10 => absurd c10 (by omega)) (fun c10 => ?_)
        refine Ex_iload_n dX12_feels_13 rfl rfl ?_
        refine Ex_i2l dX12_feels_14 rfl (by omega) ?_
        refine Ex_lconst (z := 0) dX12_feels_15 rfl (by decide) ?_
        refine Ex_lconst (z := 1) dX12_feels_16 rfl (by decide) ?_
        refine Ex_stat 0 dX12_feels_17 rfl rfl (Or.inl rfl) rfl rfl rfl rfl rfl rfl (Ex_post (x12_in (by omega) (by omega) (by omega)) ?_)
        rintro _ _ ⟨rfl, e0⟩
        obtain rfl := Eq.symm e0
        refine Ex_if_eq (t := 45) dX12_feels_20 rfl rfl (by omega) (fun c20 => absurd c20 (by omega)) (fun c20 => ?_)
        refine Ex_iload_n dX12_feels_23 rfl rfl ?_
        refine Ex_i2l dX12_feels_24 rfl (by omega) ?_
        refine Ex_lconst (z := 0) dX12_feels_25 rfl (by decide) ?_
        refine Ex_iload_n dX12_feels_26 rfl rfl ?_
        refine Ex_if_ne (t := 36) dX12_feels_27 rfl rfl (by omega) (fun c27 => ?_) (fun c27 => absurd c27 (by omega))
        refine Ex_ldc2 (z := 7) dX12_feels_36 rfl rfl ?_
        refine Ex_stat 0 dX12_feels_39 rfl rfl (Or.inl rfl) rfl rfl rfl rfl rfl rfl (Ex_post (x12_in (by omega) (by omega) (by omega)) ?_)
        rintro _ _ ⟨rfl, e0⟩
        obtain rfl := Eq.symm e0
        refine Ex_if_ne (t := 47) dX12_feels_42 rfl rfl (by omega) (fun c42 => ?_) (fun c42 => absurd c42 (by omega))
        refine Ex_iload_n dX12_feels_47 rfl rfl ?_
        refine Ex_if_ne (t := 60) dX12_feels_48 rfl rfl (by omega) (fun c48 => ?_) (fun c48 => absurd c48 (by omega))
        refine Ex_aload_n dX12_feels_60 rfl rfl ?_
        refine Ex_getf dX12_feels_61 rfl (ma0 M1_) rfl rfl rfl ?_
        refine Ex_iload_n dX12_feels_64 rfl rfl ?_
        refine Ex_iald12 dX12_feels_65 rfl (ma4 M1_) rfl (by omega) ?_
        refine Ex_istore (L2 := [_, _, _, _, _]) dX12_feels_66 rfl rfl rfl ?_
        refine Ex_iload_n dX12_feels_68 rfl rfl ?_
        refine Ex_if_ne (t := 82) dX12_feels_69 rfl rfl (by omega) (fun c69 => ?_) (fun c69 => absurd c69 (by omega))
        refine Ex_aload_n dX12_feels_82 rfl rfl ?_
        refine Ex_getf dX12_feels_83 rfl (ma0 M1_) rfl rfl rfl ?_
        refine Ex_iload_n dX12_feels_86 rfl rfl ?_
        refine Ex_iload_n dX12_feels_87 rfl rfl ?_
        refine Ex_iast12 dX12_feels_88 rfl (ma4 M1_) rfl (by omega) (by omega) ?_
        refine mg4 M1_ ?_
        intro h2_ M2_ f2_
        refine Ex_iload dX12_feels_89 rfl rfl ?_
        refine Ex_iret dX12_feels_91 rfl rfl ?_
        exact ⟨rfl, ⟨_, _, _, M2_, hn, h6, h23, hσ⟩, (f1_.trans f2_)⟩
      · have ea : do_feels (c : Int) w v (n, mm, K, F, T, S, C) = (-1, (n, mm, K, F, T, S, C)) := by unfold do_feels; rw [if_pos q, if_neg q1, if_neg q2]
        rw [ea]
        refine Ex_aload_n dX12_feels_0 rfl rfl ?_
        refine Ex_iconst dX12_feels_1 rfl ?_
        refine Ex_put12 (k0 := 13) (v := 0) dX12_feels_2 rfl (ma0 M) rfl rfl rfl rfl rfl (by omega) rfl ?_
        refine mg0 M ?_
        intro h1_ M1_ f1_
        refine Ex_aload_n dX12_feels_5 rfl rfl ?_
        refine Ex_iload_n dX12_feels_6 rfl rfl ?_
        refine Ex_inv 2 dX12_feels_7 rfl rfl (Or.inl rfl) rfl rfl rfl rfl (ma0 M1_) rfl rfl rfl (Ex_post (x12_isChild M1_ hn hn6 (by omega)) ?_)
        rintro _ _ ⟨rfl, e0⟩
        obtain rfl := Eq.symm e0
        refine Ex_if_eq (t := 45) dX12_feels_10 rfl rfl (by omega) (fun c10 => absurd c10 (by omega)) (fun c10 => ?_)
        refine Ex_iload_n dX12_feels_13 rfl rfl ?_
        refine Ex_i2l dX12_feels_14 rfl (by omega) ?_
        refine Ex_lconst (z := 0) dX12_feels_15 rfl (by decide) ?_
        refine Ex_lconst (z := 1) dX12_feels_16 rfl (by decide) ?_
        refine Ex_stat 0 dX12_feels_17 rfl rfl (Or.inl rfl) rfl rfl rfl rfl rfl rfl (Ex_post (x12_in (by omega) (by omega) (by omega)) ?_)
        rintro _ _ ⟨rfl, e0⟩
        obtain rfl := Eq.symm e0
        refine Ex_if_eq (t := 45) dX12_feels_20 rfl rfl (by omega) (fun c20 => ?_) (fun c20 => ?_)
        · refine Ex_iconst dX12_feels_45 rfl ?_
          refine Ex_iret dX12_feels_46 rfl rfl ?_
          exact ⟨rfl, ⟨_, _, _, M1_, hn, h6, h23, hσ⟩, f1_⟩
        · refine Ex_iload_n dX12_feels_23 rfl rfl ?_
          refine Ex_i2l dX12_feels_24 rfl (by omega) ?_
          refine Ex_lconst (z := 0) dX12_feels_25 rfl (by decide) ?_
          refine Ex_iload_n dX12_feels_26 rfl rfl ?_
          refine Ex_if_ne (t := 36) dX12_feels_27 rfl rfl (by omega) (fun c27 => ?_) (fun c27 => ?_)
          · refine Ex_ldc2 (z := 7) dX12_feels_36 rfl rfl ?_
            refine Ex_stat 0 dX12_feels_39 rfl rfl (Or.inl rfl) rfl rfl rfl rfl rfl rfl (Ex_post (x12_in (by omega) (by omega) (by omega)) ?_)
            rintro _ _ ⟨rfl, e0⟩
            obtain rfl := Eq.symm e0
            refine Ex_if_ne (t := 47) dX12_feels_42 rfl rfl (by omega) (fun c42 => ?_) (fun c42 => ?_)
            · exfalso; omega
            · refine Ex_iconst dX12_feels_45 rfl ?_
              refine Ex_iret dX12_feels_46 rfl rfl ?_
              exact ⟨rfl, ⟨_, _, _, M1_, hn, h6, h23, hσ⟩, f1_⟩
          · refine Ex_ldc2 (z := 20) dX12_feels_30 rfl rfl ?_
            refine Ex_goto (t := 39) dX12_feels_33 rfl ?_
            refine Ex_stat 0 dX12_feels_39 rfl rfl (Or.inl rfl) rfl rfl rfl rfl rfl rfl (Ex_post (x12_in (by omega) (by omega) (by omega)) ?_)
            rintro _ _ ⟨rfl, e0⟩
            obtain rfl := Eq.symm e0
            refine Ex_if_ne (t := 47) dX12_feels_42 rfl rfl (by omega) (fun c42 => ?_) (fun c42 => ?_)
            · exfalso; omega
            · refine Ex_iconst dX12_feels_45 rfl ?_
              refine Ex_iret dX12_feels_46 rfl rfl ?_
              exact ⟨rfl, ⟨_, _, _, M1_, hn, h6, h23, hσ⟩, f1_⟩
  · have ea : do_feels c w v (n, mm, K, F, T, S, C) = (-1, (n, mm, K, F, T, S, C)) := by unfold do_feels; rw [if_neg q]
    rw [ea]
    refine Ex_aload_n dX12_feels_0 rfl rfl ?_
    refine Ex_iconst dX12_feels_1 rfl ?_
    refine Ex_put12 (k0 := 13) (v := 0) dX12_feels_2 rfl (ma0 M) rfl rfl rfl rfl rfl (by omega) rfl ?_
    refine mg0 M ?_
    intro h1_ M1_ f1_
    refine Ex_aload_n dX12_feels_5 rfl rfl ?_
    refine Ex_iload_n dX12_feels_6 rfl rfl ?_
    refine Ex_inv 2 dX12_feels_7 rfl rfl (Or.inl rfl) rfl rfl rfl rfl (ma0 M1_) rfl rfl rfl (Ex_post (x12_isChild M1_ hn hn6 (by omega)) ?_)
    rintro _ _ ⟨rfl, e0⟩
    obtain rfl := Eq.symm e0
    refine Ex_if_eq (t := 45) dX12_feels_10 rfl rfl (by omega) (fun c10 => ?_) (fun c10 => absurd c10 (by omega))
    refine Ex_iconst dX12_feels_45 rfl ?_
    refine Ex_iret dX12_feels_46 rfl rfl ?_
    exact ⟨rfl, ⟨_, _, _, M1_, hn, h6, h23, hσ⟩, f1_⟩
theorem x12_mcomes1 {E : am_E} {d : Nat} {h : Hp} {m n : Nat} {g K F T S C : Nat → Int} {ρ : Nat → Nat → Int} {kp : Value} {c : Nat} {w : Int}  (M : MAt h m g K F T S C ρ kp) (hn : g 0 = (n : Int)) (hn6 : n ≤ 6) (hg : Rng n T S C) (hK : ∀ i, i < n → (0 ≤ K i ∧ K i ≤ 7) ∧ (0 ≤ F i ∧ F i ≤ 9)) (hB : E.2 ≤ m) (hc : c < n) (hw : 0 ≤ w ∧ w ≤ 3) (q : S c < 7 ∧ g 6 < 999) (hm9 : 0 ≤ g 6 ∧ g 6 ≤ 999)  : Ex E (d + 5) mX12_minuteComes 0 [.ref m, .int (i32 (c : Int)), .int (i32 w), .retAddr 0] [] h (fun r1 h1 => r1 = some (.int (i32 1)) ∧ MAt h1 m (fu g 6 (g 6 + 1)) K F (minT n c w K F T S C) (mnS c w K F T S) (minC n c w K F T S C) ρ kp ∧ Fr h h1 m (m + 23)) := by
  have hgc := hg c hc
  refine Ex_aload_n dX12_minuteComes_0 rfl rfl ?_
  refine Ex_iload_n dX12_minuteComes_1 rfl rfl ?_
  refine Ex_inv 2 dX12_minuteComes_2 rfl rfl (Or.inl rfl) rfl rfl rfl rfl (ma0 M) rfl rfl rfl (Ex_post (x12_isChild (c := (c : Int)) M hn hn6 (by omega)) ?_)
  rintro _ _ ⟨rfl, e0⟩
  obtain rfl := Eq.symm e0
  refine Ex_if_eq (t := 38) dX12_minuteComes_5 rfl rfl (by omega) (fun c5 => absurd c5 (by omega)) (fun c5 => ?_)
  refine Ex_iload_n dX12_minuteComes_8 rfl rfl ?_
  refine Ex_iconst dX12_minuteComes_9 rfl ?_
  refine Ex_icmp_ge (t := 38) dX12_minuteComes_10 rfl rfl (by omega) (fun c10 => absurd c10 (by omega)) (fun c10 => ?_)
  refine Ex_aload_n dX12_minuteComes_13 rfl rfl ?_
  refine Ex_getf dX12_minuteComes_14 rfl (ma0 M) rfl rfl rfl ?_
  refine Ex_iload_n dX12_minuteComes_17 rfl rfl ?_
  refine Ex_iald12 dX12_minuteComes_18 rfl (ma4 M) rfl (by omega) ?_
  refine Ex_bipush dX12_minuteComes_19 rfl (by decide) ?_
  refine Ex_icmp_ge (t := 38) dX12_minuteComes_21 rfl rfl (by omega) (fun c21 => absurd c21 (by omega)) (fun c21 => ?_)
  refine Ex_aload_n dX12_minuteComes_24 rfl rfl ?_
  refine Ex_getf dX12_minuteComes_25 rfl (ma0 M) rfl rfl rfl ?_
  refine Ex_sipush dX12_minuteComes_28 rfl (by decide) ?_
  refine Ex_icmp_ge (t := 38) dX12_minuteComes_31 rfl rfl (by omega) (fun c31 => absurd c31 (by omega)) (fun c31 => ?_)
  refine Ex_iconst dX12_minuteComes_34 rfl ?_
  refine Ex_goto (t := 39) dX12_minuteComes_35 rfl ?_
  refine Ex_istore_n (L2 := [_, _, _, _]) dX12_minuteComes_39 rfl rfl rfl ?_
  refine Ex_iload_n dX12_minuteComes_40 rfl rfl ?_
  refine Ex_if_eq (t := 50) dX12_minuteComes_41 rfl rfl (by omega) (fun c41 => absurd c41 (by omega)) (fun c41 => ?_)
  refine Ex_aload_n dX12_minuteComes_44 rfl rfl ?_
  refine Ex_iload_n dX12_minuteComes_45 rfl rfl ?_
  refine Ex_iload_n dX12_minuteComes_46 rfl rfl ?_
  refine Ex_inv 2 dX12_minuteComes_47 rfl rfl (Or.inl rfl) rfl rfl rfl rfl (ma0 M) rfl rfl rfl (Ex_post (x12_goMinute M hn hn6 hg hK hB hc q.1 hw) ?_)
  rintro _ h1_ ⟨rfl, M1_, f1_⟩
  refine Ex_iload_n dX12_minuteComes_50 rfl rfl ?_
  refine Ex_iret dX12_minuteComes_51 rfl rfl ?_
  exact ⟨rfl, M1_, f1_⟩
theorem x12_mcomes0 {E : am_E} {d : Nat} {h : Hp} {m n : Nat} {g K F T S C : Nat → Int} {ρ : Nat → Nat → Int} {kp : Value} {c w : Int}  (M : MAt h m g K F T S C ρ kp) (hn : g 0 = (n : Int)) (hn6 : n ≤ 6) (hg : Rng n T S C) (hK : ∀ i, i < n → (0 ≤ K i ∧ K i ≤ 7) ∧ (0 ≤ F i ∧ F i ≤ 9)) (hB : E.2 ≤ m) (hc : (-2147483648 ≤ c ∧ c ≤ 2147483647)) (hw : (-2147483648 ≤ w ∧ w ≤ 2147483647)) (q : ¬ ((0 ≤ c ∧ c < (n : Int)) ∧ w ≤ 3 ∧ S c.toNat < 7 ∧ g 6 < 999)) (hm9 : 0 ≤ g 6 ∧ g 6 ≤ 999)  : Ex E (d + 5) mX12_minuteComes 0 [.ref m, .int (i32 c), .int (i32 w), .retAddr 0] [] h (fun r1 h1 => r1 = some (.int (i32 0)) ∧ h1 = h) := by
  by_cases q0 : 0 ≤ c ∧ c < (n : Int)
  · obtain ⟨c, rfl⟩ := Int.eq_ofNat_of_zero_le q0.1
    have q : ¬ ((0 ≤ (c : Int) ∧ (c : Int) < (n : Int)) ∧ w ≤ 3 ∧ S c < 7 ∧ g 6 < 999) := q
    have hgc := hg c (by omega)
    refine Ex_aload_n dX12_minuteComes_0 rfl rfl ?_
    refine Ex_iload_n dX12_minuteComes_1 rfl rfl ?_
    refine Ex_inv 2 dX12_minuteComes_2 rfl rfl (Or.inl rfl) rfl rfl rfl rfl (ma0 M) rfl rfl rfl (Ex_post (x12_isChild (c := (c : Int)) M hn hn6 (by omega)) ?_)
    rintro _ _ ⟨rfl, e0⟩
    obtain rfl := Eq.symm e0
    refine Ex_if_eq (t := 38) dX12_minuteComes_5 rfl rfl (by omega) (fun c5 => absurd c5 (by omega)) (fun c5 => ?_)
    refine Ex_iload_n dX12_minuteComes_8 rfl rfl ?_
    refine Ex_iconst dX12_minuteComes_9 rfl ?_
    refine Ex_icmp_ge (t := 38) dX12_minuteComes_10 rfl rfl (by omega) (fun c10 => ?_) (fun c10 => ?_)
    · refine Ex_iconst dX12_minuteComes_38 rfl ?_
      refine Ex_istore_n (L2 := [_, _, _, _]) dX12_minuteComes_39 rfl rfl rfl ?_
      refine Ex_iload_n dX12_minuteComes_40 rfl rfl ?_
      refine Ex_if_eq (t := 50) dX12_minuteComes_41 rfl rfl (by omega) (fun c41 => ?_) (fun c41 => absurd c41 (by omega))
      refine Ex_iload_n dX12_minuteComes_50 rfl rfl ?_
      refine Ex_iret dX12_minuteComes_51 rfl rfl ?_
      exact ⟨rfl, rfl⟩
    · refine Ex_aload_n dX12_minuteComes_13 rfl rfl ?_
      refine Ex_getf dX12_minuteComes_14 rfl (ma0 M) rfl rfl rfl ?_
      refine Ex_iload_n dX12_minuteComes_17 rfl rfl ?_
      refine Ex_iald12 dX12_minuteComes_18 rfl (ma4 M) rfl (by omega) ?_
      refine Ex_bipush dX12_minuteComes_19 rfl (by decide) ?_
      refine Ex_icmp_ge (t := 38) dX12_minuteComes_21 rfl rfl (by omega) (fun c21 => ?_) (fun c21 => ?_)
      · refine Ex_iconst dX12_minuteComes_38 rfl ?_
        refine Ex_istore_n (L2 := [_, _, _, _]) dX12_minuteComes_39 rfl rfl rfl ?_
        refine Ex_iload_n dX12_minuteComes_40 rfl rfl ?_
        refine Ex_if_eq (t := 50) dX12_minuteComes_41 rfl rfl (by omega) (fun c41 => ?_) (fun c41 => absurd c41 (by omega))
        refine Ex_iload_n dX12_minuteComes_50 rfl rfl ?_
        refine Ex_iret dX12_minuteComes_51 rfl rfl ?_
        exact ⟨rfl, rfl⟩
      · refine Ex_aload_n dX12_minuteComes_24 rfl rfl ?_
        refine Ex_getf dX12_minuteComes_25 rfl (ma0 M) rfl rfl rfl ?_
        refine Ex_sipush dX12_minuteComes_28 rfl (by decide) ?_
        refine Ex_icmp_ge (t := 38) dX12_minuteComes_31 rfl rfl (by omega) (fun c31 => ?_) (fun c31 => ?_)
        · refine Ex_iconst dX12_minuteComes_38 rfl ?_
          refine Ex_istore_n (L2 := [_, _, _, _]) dX12_minuteComes_39 rfl rfl rfl ?_
          refine Ex_iload_n dX12_minuteComes_40 rfl rfl ?_
          refine Ex_if_eq (t := 50) dX12_minuteComes_41 rfl rfl (by omega) (fun c41 => ?_) (fun c41 => absurd c41 (by omega))
          refine Ex_iload_n dX12_minuteComes_50 rfl rfl ?_
          refine Ex_iret dX12_minuteComes_51 rfl rfl ?_
          exact ⟨rfl, rfl⟩
        · exfalso
          exact q ⟨by omega, by omega, by omega, by omega⟩
  · refine Ex_aload_n dX12_minuteComes_0 rfl rfl ?_
    refine Ex_iload_n dX12_minuteComes_1 rfl rfl ?_
    refine Ex_inv 2 dX12_minuteComes_2 rfl rfl (Or.inl rfl) rfl rfl rfl rfl (ma0 M) rfl rfl rfl (Ex_post (x12_isChild M hn hn6 (by omega)) ?_)
    rintro _ _ ⟨rfl, e0⟩
    obtain rfl := Eq.symm e0
    refine Ex_if_eq (t := 38) dX12_minuteComes_5 rfl rfl (by omega) (fun c5 => ?_) (fun c5 => absurd c5 (by omega))
    refine Ex_iconst dX12_minuteComes_38 rfl ?_
    refine Ex_istore_n (L2 := [_, _, _, _]) dX12_minuteComes_39 rfl rfl rfl ?_
    refine Ex_iload_n dX12_minuteComes_40 rfl rfl ?_
    refine Ex_if_eq (t := 50) dX12_minuteComes_41 rfl rfl (by omega) (fun c41 => ?_) (fun c41 => absurd c41 (by omega))
    refine Ex_iload_n dX12_minuteComes_50 rfl rfl ?_
    refine Ex_iret dX12_minuteComes_51 rfl rfl ?_
    exact ⟨rfl, rfl⟩
theorem x12_minute {E : am_E} {d : Nat} {h : Hp} {m n : Nat} {mm hi : Int} {K F T S C : Nat → Int} {σ : Nat → Nat → Int} {c w : Int}  (I : MI h m (n, mm, K, F, T, S, C) hi σ) (hn6 : n ≤ 6) (hg : Rng n T S C) (hK : ∀ i, i < n → (0 ≤ K i ∧ K i ≤ 7) ∧ (0 ≤ F i ∧ F i ≤ 9)) (hB : E.2 ≤ m) (hc : (-2147483648 ≤ c ∧ c ≤ 2147483647)) (hw : (-2147483648 ≤ w ∧ w ≤ 2147483647)) (hm9 : 0 ≤ mm ∧ mm ≤ 999)  : Ex E (d + 6) mX12_minute 0 [.ref m, .int (i32 c), .int (i32 w)] [] h (fun r1 h1 => r1 = some (.int (i32 (do_minute c w (n, mm, K, F, T, S, C)).1)) ∧ MI h1 m (do_minute c w (n, mm, K, F, T, S, C)).2 hi σ ∧ Fr h h1 m (m + 23)) := by
  obtain ⟨g, ρ, kp, M, hn, h6, h23, hσ⟩ := I
  have M : MAt h m g K F T S C ρ kp := M
  have hn : g 0 = (n : Int) := hn
  have h6 : g 6 = mm := h6
  by_cases q : (0 ≤ c ∧ c < (n : Int)) ∧ 0 ≤ w ∧ w ≤ 3
  · obtain ⟨c, rfl⟩ := Int.eq_ofNat_of_zero_le (show 0 ≤ c by omega)
    have hc : c < n := by omega
    have hgc := hg c hc
    have hKc := hK c hc
    by_cases q1 : S c < 7 ∧ mm < 999
    · have ea : do_minute (c : Int) w (n, mm, K, F, T, S, C) = (minT n c w K F T S C c, rsM c w (n, mm, K, F, T, S, C)) := by unfold do_minute; rw [if_pos q]; exact if_pos q1
      rw [ea]
      refine Ex_aload_n dX12_minute_0 rfl rfl ?_
      refine Ex_iconst dX12_minute_1 rfl ?_
      refine Ex_put12 (k0 := 13) (v := 0) dX12_minute_2 rfl (ma0 M) rfl rfl rfl rfl rfl (by omega) rfl ?_
      refine mg0 M ?_
      intro h1_ M1_ f1_
      refine Ex_aload_n dX12_minute_5 rfl rfl ?_
      refine Ex_iload_n dX12_minute_6 rfl rfl ?_
      refine Ex_inv 2 dX12_minute_7 rfl rfl (Or.inl rfl) rfl rfl rfl rfl (ma0 M1_) rfl rfl rfl (Ex_post (x12_isChild M1_ hn hn6 (by omega)) ?_)
      rintro _ _ ⟨rfl, e0⟩
      obtain rfl := Eq.symm e0
      refine Ex_if_eq (t := 25) dX12_minute_10 rfl rfl (by omega) (fun c10 => absurd c10 (by omega)) (fun c10 => ?_)
      refine Ex_iload_n dX12_minute_13 rfl rfl ?_
      refine Ex_i2l dX12_minute_14 rfl (by omega) ?_
      refine Ex_lconst (z := 0) dX12_minute_15 rfl (by decide) ?_
      refine Ex_ldc2 (z := 3) dX12_minute_16 rfl rfl ?_
      refine Ex_stat 0 dX12_minute_19 rfl rfl (Or.inl rfl) rfl rfl rfl rfl rfl rfl (Ex_post (x12_in (by omega) (by omega) (by omega)) ?_)
      rintro _ _ ⟨rfl, e0⟩
      obtain rfl := Eq.symm e0
      refine Ex_if_ne (t := 27) dX12_minute_22 rfl rfl (by omega) (fun c22 => ?_) (fun c22 => absurd c22 (by omega))
      refine Ex_aload_n dX12_minute_27 rfl rfl ?_
      refine Ex_iload_n dX12_minute_28 rfl rfl ?_
      refine Ex_iload_n dX12_minute_29 rfl rfl ?_
      refine Ex_inv 2 dX12_minute_30 rfl rfl (Or.inl rfl) rfl rfl rfl rfl (ma0 M1_) rfl rfl rfl (Ex_post (x12_mcomes1 M1_ hn hn6 hg hK hB hc q.2 ⟨q1.1, by show g 6 < 999; omega⟩ (by show 0 ≤ g 6 ∧ g 6 ≤ 999; omega)) ?_)
      rintro _ h2_ ⟨rfl, M2_, f2_⟩
      refine Ex_if_eq (t := 45) dX12_minute_33 rfl rfl (by omega) (fun c33 => absurd c33 (by omega)) (fun c33 => ?_)
      refine Ex_aload_n dX12_minute_36 rfl rfl ?_
      refine Ex_getf dX12_minute_37 rfl (ma0 M2_) rfl rfl rfl ?_
      refine Ex_iload_n dX12_minute_40 rfl rfl ?_
      refine Ex_iald12 dX12_minute_41 rfl (ma3 M2_) rfl (by omega) ?_
      refine Ex_goto (t := 47) dX12_minute_42 rfl ?_
      refine Ex_iret dX12_minute_47 rfl rfl ?_
      exact ⟨rfl, ⟨_, _, _, M2_, hn, by show g 6 + 1 = mm + 1; omega, h23, hσ⟩, (f1_.trans f2_)⟩
    · have ea : do_minute (c : Int) w (n, mm, K, F, T, S, C) = (-3, (n, mm, K, F, T, S, C)) := by unfold do_minute; rw [if_pos q]; exact if_neg q1
      rw [ea]
      refine Ex_aload_n dX12_minute_0 rfl rfl ?_
      refine Ex_iconst dX12_minute_1 rfl ?_
      refine Ex_put12 (k0 := 13) (v := 0) dX12_minute_2 rfl (ma0 M) rfl rfl rfl rfl rfl (by omega) rfl ?_
      refine mg0 M ?_
      intro h1_ M1_ f1_
      refine Ex_aload_n dX12_minute_5 rfl rfl ?_
      refine Ex_iload_n dX12_minute_6 rfl rfl ?_
      refine Ex_inv 2 dX12_minute_7 rfl rfl (Or.inl rfl) rfl rfl rfl rfl (ma0 M1_) rfl rfl rfl (Ex_post (x12_isChild M1_ hn hn6 (by omega)) ?_)
      rintro _ _ ⟨rfl, e0⟩
      obtain rfl := Eq.symm e0
      refine Ex_if_eq (t := 25) dX12_minute_10 rfl rfl (by omega) (fun c10 => absurd c10 (by omega)) (fun c10 => ?_)
      refine Ex_iload_n dX12_minute_13 rfl rfl ?_
      refine Ex_i2l dX12_minute_14 rfl (by omega) ?_
      refine Ex_lconst (z := 0) dX12_minute_15 rfl (by decide) ?_
      refine Ex_ldc2 (z := 3) dX12_minute_16 rfl rfl ?_
      refine Ex_stat 0 dX12_minute_19 rfl rfl (Or.inl rfl) rfl rfl rfl rfl rfl rfl (Ex_post (x12_in (by omega) (by omega) (by omega)) ?_)
      rintro _ _ ⟨rfl, e0⟩
      obtain rfl := Eq.symm e0
      refine Ex_if_ne (t := 27) dX12_minute_22 rfl rfl (by omega) (fun c22 => ?_) (fun c22 => absurd c22 (by omega))
      refine Ex_aload_n dX12_minute_27 rfl rfl ?_
      refine Ex_iload_n dX12_minute_28 rfl rfl ?_
      refine Ex_iload_n dX12_minute_29 rfl rfl ?_
      refine Ex_inv 2 dX12_minute_30 rfl rfl (Or.inl rfl) rfl rfl rfl rfl (ma0 M1_) rfl rfl rfl (Ex_post (x12_mcomes0 (c := (c : Int)) M1_ hn hn6 hg hK hB (by omega) (by omega) (fun z => q1 ⟨z.2.2.1, by have z9 : g 6 < 999 := z.2.2.2; omega⟩) (by show 0 ≤ g 6 ∧ g 6 ≤ 999; omega)) ?_)
      rintro _ _ ⟨rfl, e0⟩
      obtain rfl := Eq.symm e0
      refine Ex_if_eq (t := 45) dX12_minute_33 rfl rfl (by omega) (fun c33 => ?_) (fun c33 => absurd c33 (by omega))
      refine Ex_bipush dX12_minute_45 rfl (by decide) ?_
      refine Ex_iret dX12_minute_47 rfl rfl ?_
      exact ⟨rfl, ⟨_, _, _, M1_, hn, h6, h23, hσ⟩, f1_⟩
  · have ea : do_minute c w (n, mm, K, F, T, S, C) = (-1, (n, mm, K, F, T, S, C)) := by unfold do_minute; rw [if_neg q]
    rw [ea]
    refine Ex_aload_n dX12_minute_0 rfl rfl ?_
    refine Ex_iconst dX12_minute_1 rfl ?_
    refine Ex_put12 (k0 := 13) (v := 0) dX12_minute_2 rfl (ma0 M) rfl rfl rfl rfl rfl (by omega) rfl ?_
    refine mg0 M ?_
    intro h1_ M1_ f1_
    refine Ex_aload_n dX12_minute_5 rfl rfl ?_
    refine Ex_iload_n dX12_minute_6 rfl rfl ?_
    refine Ex_inv 2 dX12_minute_7 rfl rfl (Or.inl rfl) rfl rfl rfl rfl (ma0 M1_) rfl rfl rfl (Ex_post (x12_isChild M1_ hn hn6 (by omega)) ?_)
    rintro _ _ ⟨rfl, e0⟩
    obtain rfl := Eq.symm e0
    refine Ex_if_eq (t := 25) dX12_minute_10 rfl rfl (by omega) (fun c10 => ?_) (fun c10 => ?_)
    · refine Ex_iconst dX12_minute_25 rfl ?_
      refine Ex_iret dX12_minute_26 rfl rfl ?_
      exact ⟨rfl, ⟨_, _, _, M1_, hn, h6, h23, hσ⟩, f1_⟩
    · refine Ex_iload_n dX12_minute_13 rfl rfl ?_
      refine Ex_i2l dX12_minute_14 rfl (by omega) ?_
      refine Ex_lconst (z := 0) dX12_minute_15 rfl (by decide) ?_
      refine Ex_ldc2 (z := 3) dX12_minute_16 rfl rfl ?_
      refine Ex_stat 0 dX12_minute_19 rfl rfl (Or.inl rfl) rfl rfl rfl rfl rfl rfl (Ex_post (x12_in (by omega) (by omega) (by omega)) ?_)
      rintro _ _ ⟨rfl, e0⟩
      obtain rfl := Eq.symm e0
      refine Ex_if_ne (t := 27) dX12_minute_22 rfl rfl (by omega) (fun c22 => ?_) (fun c22 => ?_)
      · exfalso; omega
      · refine Ex_iconst dX12_minute_25 rfl ?_
        refine Ex_iret dX12_minute_26 rfl rfl ?_
        exact ⟨rfl, ⟨_, _, _, M1_, hn, h6, h23, hσ⟩, f1_⟩
theorem sw_fu {f : Nat → Int} {a b : Nat} : fu (fu f a (f b)) b (f a) = sw f a b := by
  funext j
  unfold fu sw
  split
  · rfl
  · split <;> rfl
theorem x12_swap1 {E : am_E} {d : Nat} {h : Hp} {m : Nat} {g K F T S C : Nat → Int} {ρ : Nat → Nat → Int} {kp : Value} {a b : Nat}  (M : MAt h m g K F T S C ρ kp) (hB : E.2 ≤ m) (ha : a < 6) (hb : b < 6) (hab : a ≠ b)  : Ex E d mX12_swapNumbers 0 [.ref m, .ref (m + 1), .int (i32 (a : Int)), .int (i32 (b : Int)), .retAddr 0] [] h (fun r1 h1 => r1 = none ∧ MAt h1 m g (sw K a b) F T S C ρ kp ∧ Fr h h1 m (m + 23)) := by
  refine Ex_aload_n dX12_swapNumbers_0 rfl rfl ?_
  refine Ex_iload_n dX12_swapNumbers_1 rfl rfl ?_
  refine Ex_iald12 dX12_swapNumbers_2 rfl (ma1 M) rfl (by omega) ?_
  refine Ex_istore (L2 := [_, _, _, _, _]) dX12_swapNumbers_3 rfl rfl rfl ?_
  refine Ex_aload_n dX12_swapNumbers_5 rfl rfl ?_
  refine Ex_iload_n dX12_swapNumbers_6 rfl rfl ?_
  refine Ex_aload_n dX12_swapNumbers_7 rfl rfl ?_
  refine Ex_iload_n dX12_swapNumbers_8 rfl rfl ?_
  refine Ex_iald12 dX12_swapNumbers_9 rfl (ma1 M) rfl (by omega) ?_
  refine Ex_iast12 dX12_swapNumbers_10 rfl (ma1 M) rfl (by omega) (by omega) ?_
  refine mg1 M ?_
  intro h1_ M1_ f1_
  refine Ex_aload_n dX12_swapNumbers_11 rfl rfl ?_
  refine Ex_iload_n dX12_swapNumbers_12 rfl rfl ?_
  refine Ex_iload dX12_swapNumbers_13 rfl rfl ?_
  refine Ex_iast12 dX12_swapNumbers_15 rfl (ma1 M1_) rfl (by omega) (by omega) ?_
  refine mg1 M1_ ?_
  intro h2_ M2_ f2_
  refine Ex_vret dX12_swapNumbers_16 rfl ?_
  rw [sw_fu] at M2_
  exact ⟨rfl, M2_, (f1_.trans f2_)⟩
theorem x12_swap2 {E : am_E} {d : Nat} {h : Hp} {m : Nat} {g K F T S C : Nat → Int} {ρ : Nat → Nat → Int} {kp : Value} {a b : Nat}  (M : MAt h m g K F T S C ρ kp) (hB : E.2 ≤ m) (ha : a < 6) (hb : b < 6) (hab : a ≠ b)  : Ex E d mX12_swapNumbers 0 [.ref m, .ref (m + 2), .int (i32 (a : Int)), .int (i32 (b : Int)), .retAddr 0] [] h (fun r1 h1 => r1 = none ∧ MAt h1 m g K (sw F a b) T S C ρ kp ∧ Fr h h1 m (m + 23)) := by
  refine Ex_aload_n dX12_swapNumbers_0 rfl rfl ?_
  refine Ex_iload_n dX12_swapNumbers_1 rfl rfl ?_
  refine Ex_iald12 dX12_swapNumbers_2 rfl (ma2 M) rfl (by omega) ?_
  refine Ex_istore (L2 := [_, _, _, _, _]) dX12_swapNumbers_3 rfl rfl rfl ?_
  refine Ex_aload_n dX12_swapNumbers_5 rfl rfl ?_
  refine Ex_iload_n dX12_swapNumbers_6 rfl rfl ?_
  refine Ex_aload_n dX12_swapNumbers_7 rfl rfl ?_
  refine Ex_iload_n dX12_swapNumbers_8 rfl rfl ?_
  refine Ex_iald12 dX12_swapNumbers_9 rfl (ma2 M) rfl (by omega) ?_
  refine Ex_iast12 dX12_swapNumbers_10 rfl (ma2 M) rfl (by omega) (by omega) ?_
  refine mg2 M ?_
  intro h1_ M1_ f1_
  refine Ex_aload_n dX12_swapNumbers_11 rfl rfl ?_
  refine Ex_iload_n dX12_swapNumbers_12 rfl rfl ?_
  refine Ex_iload dX12_swapNumbers_13 rfl rfl ?_
  refine Ex_iast12 dX12_swapNumbers_15 rfl (ma2 M1_) rfl (by omega) (by omega) ?_
  refine mg2 M1_ ?_
  intro h2_ M2_ f2_
  refine Ex_vret dX12_swapNumbers_16 rfl ?_
  rw [sw_fu] at M2_
  exact ⟨rfl, M2_, (f1_.trans f2_)⟩
theorem x12_swap3 {E : am_E} {d : Nat} {h : Hp} {m : Nat} {g K F T S C : Nat → Int} {ρ : Nat → Nat → Int} {kp : Value} {a b : Nat}  (M : MAt h m g K F T S C ρ kp) (hB : E.2 ≤ m) (ha : a < 6) (hb : b < 6) (hab : a ≠ b)  : Ex E d mX12_swapNumbers 0 [.ref m, .ref (m + 3), .int (i32 (a : Int)), .int (i32 (b : Int)), .retAddr 0] [] h (fun r1 h1 => r1 = none ∧ MAt h1 m g K F (sw T a b) S C ρ kp ∧ Fr h h1 m (m + 23)) := by
  refine Ex_aload_n dX12_swapNumbers_0 rfl rfl ?_
  refine Ex_iload_n dX12_swapNumbers_1 rfl rfl ?_
  refine Ex_iald12 dX12_swapNumbers_2 rfl (ma3 M) rfl (by omega) ?_
  refine Ex_istore (L2 := [_, _, _, _, _]) dX12_swapNumbers_3 rfl rfl rfl ?_
  refine Ex_aload_n dX12_swapNumbers_5 rfl rfl ?_
  refine Ex_iload_n dX12_swapNumbers_6 rfl rfl ?_
  refine Ex_aload_n dX12_swapNumbers_7 rfl rfl ?_
  refine Ex_iload_n dX12_swapNumbers_8 rfl rfl ?_
  refine Ex_iald12 dX12_swapNumbers_9 rfl (ma3 M) rfl (by omega) ?_
  refine Ex_iast12 dX12_swapNumbers_10 rfl (ma3 M) rfl (by omega) (by omega) ?_
  refine mg3 M ?_
  intro h1_ M1_ f1_
  refine Ex_aload_n dX12_swapNumbers_11 rfl rfl ?_
  refine Ex_iload_n dX12_swapNumbers_12 rfl rfl ?_
  refine Ex_iload dX12_swapNumbers_13 rfl rfl ?_
  refine Ex_iast12 dX12_swapNumbers_15 rfl (ma3 M1_) rfl (by omega) (by omega) ?_
  refine mg3 M1_ ?_
  intro h2_ M2_ f2_
  refine Ex_vret dX12_swapNumbers_16 rfl ?_
  rw [sw_fu] at M2_
  exact ⟨rfl, M2_, (f1_.trans f2_)⟩
theorem x12_swap4 {E : am_E} {d : Nat} {h : Hp} {m : Nat} {g K F T S C : Nat → Int} {ρ : Nat → Nat → Int} {kp : Value} {a b : Nat}  (M : MAt h m g K F T S C ρ kp) (hB : E.2 ≤ m) (ha : a < 6) (hb : b < 6) (hab : a ≠ b)  : Ex E d mX12_swapNumbers 0 [.ref m, .ref (m + 4), .int (i32 (a : Int)), .int (i32 (b : Int)), .retAddr 0] [] h (fun r1 h1 => r1 = none ∧ MAt h1 m g K F T (sw S a b) C ρ kp ∧ Fr h h1 m (m + 23)) := by
  refine Ex_aload_n dX12_swapNumbers_0 rfl rfl ?_
  refine Ex_iload_n dX12_swapNumbers_1 rfl rfl ?_
  refine Ex_iald12 dX12_swapNumbers_2 rfl (ma4 M) rfl (by omega) ?_
  refine Ex_istore (L2 := [_, _, _, _, _]) dX12_swapNumbers_3 rfl rfl rfl ?_
  refine Ex_aload_n dX12_swapNumbers_5 rfl rfl ?_
  refine Ex_iload_n dX12_swapNumbers_6 rfl rfl ?_
  refine Ex_aload_n dX12_swapNumbers_7 rfl rfl ?_
  refine Ex_iload_n dX12_swapNumbers_8 rfl rfl ?_
  refine Ex_iald12 dX12_swapNumbers_9 rfl (ma4 M) rfl (by omega) ?_
  refine Ex_iast12 dX12_swapNumbers_10 rfl (ma4 M) rfl (by omega) (by omega) ?_
  refine mg4 M ?_
  intro h1_ M1_ f1_
  refine Ex_aload_n dX12_swapNumbers_11 rfl rfl ?_
  refine Ex_iload_n dX12_swapNumbers_12 rfl rfl ?_
  refine Ex_iload dX12_swapNumbers_13 rfl rfl ?_
  refine Ex_iast12 dX12_swapNumbers_15 rfl (ma4 M1_) rfl (by omega) (by omega) ?_
  refine mg4 M1_ ?_
  intro h2_ M2_ f2_
  refine Ex_vret dX12_swapNumbers_16 rfl ?_
  rw [sw_fu] at M2_
  exact ⟨rfl, M2_, (f1_.trans f2_)⟩
theorem x12_swap5 {E : am_E} {d : Nat} {h : Hp} {m : Nat} {g K F T S C : Nat → Int} {ρ : Nat → Nat → Int} {kp : Value} {a b : Nat}  (M : MAt h m g K F T S C ρ kp) (hB : E.2 ≤ m) (ha : a < 6) (hb : b < 6) (hab : a ≠ b)  : Ex E d mX12_swapNumbers 0 [.ref m, .ref (m + 5), .int (i32 (a : Int)), .int (i32 (b : Int)), .retAddr 0] [] h (fun r1 h1 => r1 = none ∧ MAt h1 m g K F T S (sw C a b) ρ kp ∧ Fr h h1 m (m + 23)) := by
  refine Ex_aload_n dX12_swapNumbers_0 rfl rfl ?_
  refine Ex_iload_n dX12_swapNumbers_1 rfl rfl ?_
  refine Ex_iald12 dX12_swapNumbers_2 rfl (ma5 M) rfl (by omega) ?_
  refine Ex_istore (L2 := [_, _, _, _, _]) dX12_swapNumbers_3 rfl rfl rfl ?_
  refine Ex_aload_n dX12_swapNumbers_5 rfl rfl ?_
  refine Ex_iload_n dX12_swapNumbers_6 rfl rfl ?_
  refine Ex_aload_n dX12_swapNumbers_7 rfl rfl ?_
  refine Ex_iload_n dX12_swapNumbers_8 rfl rfl ?_
  refine Ex_iald12 dX12_swapNumbers_9 rfl (ma5 M) rfl (by omega) ?_
  refine Ex_iast12 dX12_swapNumbers_10 rfl (ma5 M) rfl (by omega) (by omega) ?_
  refine mg5 M ?_
  intro h1_ M1_ f1_
  refine Ex_aload_n dX12_swapNumbers_11 rfl rfl ?_
  refine Ex_iload_n dX12_swapNumbers_12 rfl rfl ?_
  refine Ex_iload dX12_swapNumbers_13 rfl rfl ?_
  refine Ex_iast12 dX12_swapNumbers_15 rfl (ma5 M1_) rfl (by omega) (by omega) ?_
  refine mg5 M1_ ?_
  intro h2_ M2_ f2_
  refine Ex_vret dX12_swapNumbers_16 rfl ?_
  rw [sw_fu] at M2_
  exact ⟨rfl, M2_, (f1_.trans f2_)⟩
theorem x12_swapAll {E : am_E} {d : Nat} {h : Hp} {m : Nat} {g K F T S C : Nat → Int} {ρ : Nat → Nat → Int} {kp : Value} {a b : Nat}  (M : MAt h m g K F T S C ρ kp) (hB : E.2 ≤ m) (ha : a < 6) (hb : b < 6) (hab : a ≠ b)  : Ex E (d + 1) mX12_swapAll 0 [.ref m, .int (i32 (a : Int)), .int (i32 (b : Int))] [] h (fun r1 h1 => r1 = none ∧ MAt h1 m g (sw K a b) (sw F a b) (sw T a b) (sw S a b) (sw C a b) ρ kp ∧ Fr h h1 m (m + 23)) := by
  refine Ex_aload_n dX12_swapAll_0 rfl rfl ?_
  refine Ex_aload_n dX12_swapAll_1 rfl rfl ?_
  refine Ex_getf dX12_swapAll_2 rfl (ma0 M) rfl rfl rfl ?_
  refine Ex_iload_n dX12_swapAll_5 rfl rfl ?_
  refine Ex_iload_n dX12_swapAll_6 rfl rfl ?_
  refine Ex_inv 2 dX12_swapAll_7 rfl rfl (Or.inl rfl) rfl rfl rfl rfl (ma0 M) rfl rfl rfl (Ex_post (x12_swap1 M hB ha hb hab) ?_)
  rintro _ h1_ ⟨rfl, M1_, f1_⟩
  refine Ex_aload_n dX12_swapAll_10 rfl rfl ?_
  refine Ex_aload_n dX12_swapAll_11 rfl rfl ?_
  refine Ex_getf dX12_swapAll_12 rfl (ma0 M1_) rfl rfl rfl ?_
  refine Ex_iload_n dX12_swapAll_15 rfl rfl ?_
  refine Ex_iload_n dX12_swapAll_16 rfl rfl ?_
  refine Ex_inv 2 dX12_swapAll_17 rfl rfl (Or.inl rfl) rfl rfl rfl rfl (ma0 M1_) rfl rfl rfl (Ex_post (x12_swap2 M1_ hB ha hb hab) ?_)
  rintro _ h2_ ⟨rfl, M2_, f2_⟩
  refine Ex_aload_n dX12_swapAll_20 rfl rfl ?_
  refine Ex_aload_n dX12_swapAll_21 rfl rfl ?_
  refine Ex_getf dX12_swapAll_22 rfl (ma0 M2_) rfl rfl rfl ?_
  refine Ex_iload_n dX12_swapAll_25 rfl rfl ?_
  refine Ex_iload_n dX12_swapAll_26 rfl rfl ?_
  refine Ex_inv 2 dX12_swapAll_27 rfl rfl (Or.inl rfl) rfl rfl rfl rfl (ma0 M2_) rfl rfl rfl (Ex_post (x12_swap3 M2_ hB ha hb hab) ?_)
  rintro _ h3_ ⟨rfl, M3_, f3_⟩
  refine Ex_aload_n dX12_swapAll_30 rfl rfl ?_
  refine Ex_aload_n dX12_swapAll_31 rfl rfl ?_
  refine Ex_getf dX12_swapAll_32 rfl (ma0 M3_) rfl rfl rfl ?_
  refine Ex_iload_n dX12_swapAll_35 rfl rfl ?_
  refine Ex_iload_n dX12_swapAll_36 rfl rfl ?_
  refine Ex_inv 2 dX12_swapAll_37 rfl rfl (Or.inl rfl) rfl rfl rfl rfl (ma0 M3_) rfl rfl rfl (Ex_post (x12_swap4 M3_ hB ha hb hab) ?_)
  rintro _ h4_ ⟨rfl, M4_, f4_⟩
  refine Ex_aload_n dX12_swapAll_40 rfl rfl ?_
  refine Ex_aload_n dX12_swapAll_41 rfl rfl ?_
  refine Ex_getf dX12_swapAll_42 rfl (ma0 M4_) rfl rfl rfl ?_
  refine Ex_iload_n dX12_swapAll_45 rfl rfl ?_
  refine Ex_iload_n dX12_swapAll_46 rfl rfl ?_
  refine Ex_inv 2 dX12_swapAll_47 rfl rfl (Or.inl rfl) rfl rfl rfl rfl (ma0 M4_) rfl rfl rfl (Ex_post (x12_swap5 M4_ hB ha hb hab) ?_)
  rintro _ h5_ ⟨rfl, M5_, f5_⟩
  refine Ex_vret dX12_swapAll_50 rfl ?_
  exact ⟨rfl, M5_, (f1_.trans (f2_.trans (f3_.trans (f4_.trans f5_))))⟩
theorem x12_change {E : am_E} {d : Nat} {h : Hp} {m n : Nat} {mm hi : Int} {K F T S C : Nat → Int} {σ : Nat → Nat → Int} {a b : Int}  (I : MI h m (n, mm, K, F, T, S, C) hi σ) (hn6 : n ≤ 6) (hg : Rng n T S C) (hK : ∀ i, i < n → (0 ≤ K i ∧ K i ≤ 7) ∧ (0 ≤ F i ∧ F i ≤ 9)) (hB : E.2 ≤ m) (ha : (-2147483648 ≤ a ∧ a ≤ 2147483647)) (hb : (-2147483648 ≤ b ∧ b ≤ 2147483647))  : Ex E (d + 2) mX12_change 0 [.ref m, .int (i32 a), .int (i32 b)] [] h (fun r1 h1 => r1 = some (.int (i32 (do_change a b (n, mm, K, F, T, S, C)).1)) ∧ MI h1 m (do_change a b (n, mm, K, F, T, S, C)).2 hi σ ∧ Fr h h1 m (m + 23)) := by
  obtain ⟨g, ρ, kp, M, hn, h6, h23, hσ⟩ := I
  have M : MAt h m g K F T S C ρ kp := M
  have hn : g 0 = (n : Int) := hn
  have h6 : g 6 = mm := h6
  by_cases q : (0 ≤ a ∧ a < (n : Int)) ∧ (0 ≤ b ∧ b < (n : Int)) ∧ a ≠ b
  · have ea : do_change a b (n, mm, K, F, T, S, C) = (1, rsX a.toNat b.toNat (n, mm, K, F, T, S, C)) := by unfold do_change; exact if_pos q
    rw [ea]
    obtain ⟨a, rfl⟩ := Int.eq_ofNat_of_zero_le q.1.1
    obtain ⟨b, rfl⟩ := Int.eq_ofNat_of_zero_le q.2.1.1
    refine Ex_aload_n dX12_change_0 rfl rfl ?_
    refine Ex_iconst dX12_change_1 rfl ?_
    refine Ex_put12 (k0 := 13) (v := 0) dX12_change_2 rfl (ma0 M) rfl rfl rfl rfl rfl (by omega) rfl ?_
    refine mg0 M ?_
    intro h1_ M1_ f1_
    refine Ex_aload_n dX12_change_5 rfl rfl ?_
    refine Ex_iload_n dX12_change_6 rfl rfl ?_
    refine Ex_inv 2 dX12_change_7 rfl rfl (Or.inl rfl) rfl rfl rfl rfl (ma0 M1_) rfl rfl rfl (Ex_post (x12_isChild M1_ hn hn6 (by omega)) ?_)
    rintro _ _ ⟨rfl, e0⟩
    obtain rfl := Eq.symm e0
    refine Ex_if_eq (t := 26) dX12_change_10 rfl rfl (by omega) (fun c10 => absurd c10 (by omega)) (fun c10 => ?_)
    refine Ex_aload_n dX12_change_13 rfl rfl ?_
    refine Ex_iload_n dX12_change_14 rfl rfl ?_
    refine Ex_inv 2 dX12_change_15 rfl rfl (Or.inl rfl) rfl rfl rfl rfl (ma0 M1_) rfl rfl rfl (Ex_post (x12_isChild M1_ hn hn6 (by omega)) ?_)
    rintro _ _ ⟨rfl, e0⟩
    obtain rfl := Eq.symm e0
    refine Ex_if_eq (t := 26) dX12_change_18 rfl rfl (by omega) (fun c18 => absurd c18 (by omega)) (fun c18 => ?_)
    refine Ex_iload_n dX12_change_21 rfl rfl ?_
    refine Ex_iload_n dX12_change_22 rfl rfl ?_
    refine Ex_icmp_ne (t := 28) dX12_change_23 rfl rfl (by omega) (fun c23 => ?_) (fun c23 => absurd c23 (by omega))
    refine Ex_aload_n dX12_change_28 rfl rfl ?_
    refine Ex_iload_n dX12_change_29 rfl rfl ?_
    refine Ex_iload_n dX12_change_30 rfl rfl ?_
    refine Ex_inv 2 dX12_change_31 rfl rfl (Or.inl rfl) rfl rfl rfl rfl (ma0 M1_) rfl rfl rfl (Ex_post (x12_swapAll M1_ hB (by omega) (by omega) (by omega)) ?_)
    rintro _ h2_ ⟨rfl, M2_, f2_⟩
    refine Ex_iconst dX12_change_34 rfl ?_
    refine Ex_iret dX12_change_35 rfl rfl ?_
    exact ⟨rfl, ⟨_, _, _, M2_, hn, h6, h23, hσ⟩, (f1_.trans f2_)⟩
  · have ea : do_change a b (n, mm, K, F, T, S, C) = (-1, (n, mm, K, F, T, S, C)) := by unfold do_change; exact if_neg q
    rw [ea]
    refine Ex_aload_n dX12_change_0 rfl rfl ?_
    refine Ex_iconst dX12_change_1 rfl ?_
    refine Ex_put12 (k0 := 13) (v := 0) dX12_change_2 rfl (ma0 M) rfl rfl rfl rfl rfl (by omega) rfl ?_
    refine mg0 M ?_
    intro h1_ M1_ f1_
    refine Ex_aload_n dX12_change_5 rfl rfl ?_
    refine Ex_iload_n dX12_change_6 rfl rfl ?_
    refine Ex_inv 2 dX12_change_7 rfl rfl (Or.inl rfl) rfl rfl rfl rfl (ma0 M1_) rfl rfl rfl (Ex_post (x12_isChild M1_ hn hn6 (by omega)) ?_)
    rintro _ _ ⟨rfl, e0⟩
    obtain rfl := Eq.symm e0
    refine Ex_if_eq (t := 26) dX12_change_10 rfl rfl (by omega) (fun c10 => ?_) (fun c10 => ?_)
    · refine Ex_iconst dX12_change_26 rfl ?_
      refine Ex_iret dX12_change_27 rfl rfl ?_
      exact ⟨rfl, ⟨_, _, _, M1_, hn, h6, h23, hσ⟩, f1_⟩
    · refine Ex_aload_n dX12_change_13 rfl rfl ?_
      refine Ex_iload_n dX12_change_14 rfl rfl ?_
      refine Ex_inv 2 dX12_change_15 rfl rfl (Or.inl rfl) rfl rfl rfl rfl (ma0 M1_) rfl rfl rfl (Ex_post (x12_isChild M1_ hn hn6 (by omega)) ?_)
      rintro _ _ ⟨rfl, e0⟩
      obtain rfl := Eq.symm e0
      refine Ex_if_eq (t := 26) dX12_change_18 rfl rfl (by omega) (fun c18 => ?_) (fun c18 => ?_)
      · refine Ex_iconst dX12_change_26 rfl ?_
        refine Ex_iret dX12_change_27 rfl rfl ?_
        exact ⟨rfl, ⟨_, _, _, M1_, hn, h6, h23, hσ⟩, f1_⟩
      · refine Ex_iload_n dX12_change_21 rfl rfl ?_
        refine Ex_iload_n dX12_change_22 rfl rfl ?_
        refine Ex_icmp_ne (t := 28) dX12_change_23 rfl rfl (by omega) (fun c23 => ?_) (fun c23 => ?_)
        · exfalso; omega
        · refine Ex_iconst dX12_change_26 rfl ?_
          refine Ex_iret dX12_change_27 rfl rfl ?_
          exact ⟨rfl, ⟨_, _, _, M1_, hn, h6, h23, hσ⟩, f1_⟩
theorem x12_rest {E : am_E} {d : Nat} {h : Hp} {m n : Nat} {mm hi : Int} {K F T S C : Nat → Int} {σ : Nat → Nat → Int} {w : Int}  (I : MI h m (n, mm, K, F, T, S, C) hi σ) (hn6 : n ≤ 6) (hg : Rng n T S C) (hK : ∀ i, i < n → (0 ≤ K i ∧ K i ≤ 7) ∧ (0 ≤ F i ∧ F i ≤ 9)) (hB : E.2 ≤ m) (hw : (-2147483648 ≤ w ∧ w ≤ 2147483647))  : Ex E (d + 2) mX12_rest 0 [.ref m, .int (i32 w)] [] h (fun r1 h1 => r1 = some (.int (i32 (do_rest w (n, mm, K, F, T, S, C)).1)) ∧ MI h1 m (do_rest w (n, mm, K, F, T, S, C)).2 hi σ ∧ Fr h h1 m (m + 23)) := by
  obtain ⟨g, ρ, kp, M, hn, h6, h23, hσ⟩ := I
  have M : MAt h m g K F T S C ρ kp := M
  have hn : g 0 = (n : Int) := hn
  have h6 : g 6 = mm := h6
  by_cases q : 0 ≤ w ∧ w ≤ 9
  · have ea : do_rest w (n, mm, K, F, T, S, C) = (sm (brS w n S) 0 n, rsB w (n, mm, K, F, T, S, C)) := by unfold do_rest; exact if_pos q
    rw [ea]
    refine Ex_aload_n dX12_rest_0 rfl rfl ?_
    refine Ex_iconst dX12_rest_1 rfl ?_
    refine Ex_put12 (k0 := 13) (v := 0) dX12_rest_2 rfl (ma0 M) rfl rfl rfl rfl rfl (by omega) rfl ?_
    refine mg0 M ?_
    intro h1_ M1_ f1_
    refine Ex_iload_n dX12_rest_5 rfl rfl ?_
    refine Ex_i2l dX12_rest_6 rfl (by omega) ?_
    refine Ex_lconst (z := 0) dX12_rest_7 rfl (by decide) ?_
    refine Ex_ldc2 (z := 9) dX12_rest_8 rfl rfl ?_
    refine Ex_stat 0 dX12_rest_11 rfl rfl (Or.inl rfl) rfl rfl rfl rfl rfl rfl (Ex_post (x12_in (by omega) (by omega) (by omega)) ?_)
    rintro _ _ ⟨rfl, e0⟩
    obtain rfl := Eq.symm e0
    refine Ex_if_ne (t := 19) dX12_rest_14 rfl rfl (by omega) (fun c14 => ?_) (fun c14 => absurd c14 (by omega))
    refine Ex_aload_n dX12_rest_19 rfl rfl ?_
    refine Ex_iload_n dX12_rest_20 rfl rfl ?_
    refine Ex_inv 2 dX12_rest_21 rfl rfl (Or.inl rfl) rfl rfl rfl rfl (ma0 M1_) rfl rfl rfl (Ex_post (x12_goBreak M1_ hn hn6 hg hB q) ?_)
    rintro _ h2_ ⟨rfl, M2_, f2_⟩
    refine Ex_aload_n dX12_rest_24 rfl rfl ?_
    refine Ex_inv 2 dX12_rest_25 rfl rfl (Or.inl rfl) rfl rfl rfl rfl (ma0 M2_) rfl rfl rfl (Ex_post (x12_allSteps M2_ hn hn6 (br_r hg q.1)) ?_)
    rintro _ _ ⟨rfl, e0⟩
    obtain rfl := Eq.symm e0
    refine Ex_iret dX12_rest_28 rfl rfl ?_
    exact ⟨rfl, ⟨_, _, _, M2_, hn, h6, h23, hσ⟩, (f1_.trans f2_)⟩
  · have ea : do_rest w (n, mm, K, F, T, S, C) = (-1, (n, mm, K, F, T, S, C)) := by unfold do_rest; exact if_neg q
    rw [ea]
    refine Ex_aload_n dX12_rest_0 rfl rfl ?_
    refine Ex_iconst dX12_rest_1 rfl ?_
    refine Ex_put12 (k0 := 13) (v := 0) dX12_rest_2 rfl (ma0 M) rfl rfl rfl rfl rfl (by omega) rfl ?_
    refine mg0 M ?_
    intro h1_ M1_ f1_
    refine Ex_iload_n dX12_rest_5 rfl rfl ?_
    refine Ex_i2l dX12_rest_6 rfl (by omega) ?_
    refine Ex_lconst (z := 0) dX12_rest_7 rfl (by decide) ?_
    refine Ex_ldc2 (z := 9) dX12_rest_8 rfl rfl ?_
    refine Ex_stat 0 dX12_rest_11 rfl rfl (Or.inl rfl) rfl rfl rfl rfl rfl rfl (Ex_post (x12_in (by omega) (by omega) (by omega)) ?_)
    rintro _ _ ⟨rfl, e0⟩
    obtain rfl := Eq.symm e0
    refine Ex_if_ne (t := 19) dX12_rest_14 rfl rfl (by omega) (fun c14 => absurd c14 (by omega)) (fun c14 => ?_)
    refine Ex_iconst dX12_rest_17 rfl ?_
    refine Ex_iret dX12_rest_18 rfl rfl ?_
    exact ⟨rfl, ⟨_, _, _, M1_, hn, h6, h23, hσ⟩, f1_⟩
theorem x12_readyBits_l {E : am_E} {d : Nat} {h : Hp} {m n : Nat} {g K F T S C : Nat → Int} {ρ : Nat → Nat → Int} {kp : Value}  (M : MAt h m g K F T S C ρ kp) (hn : g 0 = (n : Int)) (hn6 : n ≤ 6) (hg : Rng n T S C) (hK : ∀ i, i < n → (0 ≤ K i ∧ K i ≤ 7) ∧ (0 ≤ F i ∧ F i ≤ 9))  : ∀ (k : Nat) (c : Nat) (a : Int), c + k = n → 0 ≤ a ∧ a < (2 : Int) ^ c → Ex E (d + 3) mX12_readyBits 4 [.ref m, .int (i32 a), .int (i32 (c : Int))] [] h (fun r1 h1 => r1 = some (.int (i32 (a + bt (rdB K F T S) c k))) ∧ h1 = h) := by
  intro k
  induction k with
  | zero =>
    intro c a hk ha
    refine Ex_iload_n dX12_readyBits_4 rfl rfl ?_
    refine Ex_aload_n dX12_readyBits_5 rfl rfl ?_
    refine Ex_getf dX12_readyBits_6 rfl (ma0 M) rfl rfl rfl ?_
    refine Ex_icmp_ge (t := 36) dX12_readyBits_9 rfl rfl (by omega) (fun c9 => ?_) (fun c9 => absurd c9 (by omega))
    refine Ex_iload_n dX12_readyBits_36 rfl rfl ?_
    refine Ex_iret dX12_readyBits_37 rfl rfl ?_
    exact ⟨ri (by unfold bt; omega), rfl⟩
  | succ k ih =>
    intro c a hk ha
    have hp2 := pow2_s c
    have hp3 := pow2_pos c
    have hgc := hg c (by omega)
    by_cases hq : S c < 7 ∧ sp_needs (K c) (F c) (S c) ≤ T c
    · have hb : rdB K F T S c = true := decide_eq_true hq
      refine Ex_iload_n dX12_readyBits_4 rfl rfl ?_
      refine Ex_aload_n dX12_readyBits_5 rfl rfl ?_
      refine Ex_getf dX12_readyBits_6 rfl (ma0 M) rfl rfl rfl ?_
      refine Ex_icmp_ge (t := 36) dX12_readyBits_9 rfl rfl (by omega) (fun c9 => absurd c9 (by omega)) (fun c9 => ?_)
      refine Ex_iload_n dX12_readyBits_12 rfl rfl ?_
      refine Ex_aload_n dX12_readyBits_13 rfl rfl ?_
      refine Ex_iload_n dX12_readyBits_14 rfl rfl ?_
      refine Ex_inv 2 dX12_readyBits_15 rfl rfl (Or.inl rfl) rfl rfl rfl rfl (ma0 M) rfl rfl rfl (Ex_post (x12_isReady M hn6 hg hK (by omega)) ?_)
      rintro _ _ ⟨rfl, e0⟩
      obtain rfl := Eq.symm e0
      refine Ex_if_eq (t := 27) dX12_readyBits_18 rfl rfl (by rw [if_pos hq]; omega) (fun c18 => absurd c18 (by rw [if_pos hq] at c18; omega)) (fun c18 => ?_)
      refine Ex_iconst dX12_readyBits_21 rfl ?_
      refine Ex_iload_n dX12_readyBits_22 rfl rfl ?_
      refine Ex_ishl (v := ((2 : Int) ^ c)) dX12_readyBits_23 rfl (shl_bit c (by omega)) ?_
      refine Ex_goto (t := 28) dX12_readyBits_24 rfl ?_
      refine Ex_ior (v := (a + (2 : Int) ^ c)) dX12_readyBits_28 rfl (or_bitI (by omega) ha) ?_
      refine Ex_istore_n (L2 := [_, _, _]) dX12_readyBits_29 rfl rfl rfl ?_
      refine Ex_iinc (L2 := [_, _, _]) dX12_readyBits_30 rfl rfl rfl ?_
      refine Ex_goto (t := 4) dX12_readyBits_33 rfl ?_
      refine Ex_post (ih (c + 1) _ (by omega) ⟨by omega, by omega⟩) ?_
      rintro _ _ ⟨rfl, rfl⟩
      exact ⟨ri (by rw [show bt (rdB K F T S) c (k + 1) = (if rdB K F T S c then 2 ^ c else 0) + bt (rdB K F T S) (c + 1) k from rfl, hb]; rw [if_pos rfl]; omega), rfl⟩
    · have hb : rdB K F T S c = false := decide_eq_false hq
      refine Ex_iload_n dX12_readyBits_4 rfl rfl ?_
      refine Ex_aload_n dX12_readyBits_5 rfl rfl ?_
      refine Ex_getf dX12_readyBits_6 rfl (ma0 M) rfl rfl rfl ?_
      refine Ex_icmp_ge (t := 36) dX12_readyBits_9 rfl rfl (by omega) (fun c9 => absurd c9 (by omega)) (fun c9 => ?_)
      refine Ex_iload_n dX12_readyBits_12 rfl rfl ?_
      refine Ex_aload_n dX12_readyBits_13 rfl rfl ?_
      refine Ex_iload_n dX12_readyBits_14 rfl rfl ?_
      refine Ex_inv 2 dX12_readyBits_15 rfl rfl (Or.inl rfl) rfl rfl rfl rfl (ma0 M) rfl rfl rfl (Ex_post (x12_isReady M hn6 hg hK (by omega)) ?_)
      rintro _ _ ⟨rfl, e0⟩
      obtain rfl := Eq.symm e0
      refine Ex_if_eq (t := 27) dX12_readyBits_18 rfl rfl (by rw [if_neg hq]; omega) (fun c18 => ?_) (fun c18 => absurd c18 (by rw [if_neg hq] at c18; omega))
      refine Ex_iconst dX12_readyBits_27 rfl ?_
      refine Ex_ior (v := a) dX12_readyBits_28 rfl (i32_or0 a) ?_
      refine Ex_istore_n (L2 := [_, _, _]) dX12_readyBits_29 rfl rfl rfl ?_
      refine Ex_iinc (L2 := [_, _, _]) dX12_readyBits_30 rfl rfl rfl ?_
      refine Ex_goto (t := 4) dX12_readyBits_33 rfl ?_
      refine Ex_post (ih (c + 1) _ (by omega) ⟨by omega, by omega⟩) ?_
      rintro _ _ ⟨rfl, rfl⟩
      exact ⟨ri (by rw [show bt (rdB K F T S) c (k + 1) = (if rdB K F T S c then 2 ^ c else 0) + bt (rdB K F T S) (c + 1) k from rfl, hb]; rw [if_neg (by decide)]; omega), rfl⟩
theorem x12_readyBits {E : am_E} {d : Nat} {h : Hp} {m n : Nat} {g K F T S C : Nat → Int} {ρ : Nat → Nat → Int} {kp : Value}  (M : MAt h m g K F T S C ρ kp) (hn : g 0 = (n : Int)) (hn6 : n ≤ 6) (hg : Rng n T S C) (hK : ∀ i, i < n → (0 ≤ K i ∧ K i ≤ 7) ∧ (0 ≤ F i ∧ F i ≤ 9))  : Ex E (d + 3) mX12_readyBits 0 [.ref m, .retAddr 0, .retAddr 0] [] h (fun r1 h1 => r1 = some (.int (i32 (bt (rdB K F T S) 0 n))) ∧ h1 = h) := by
  refine Ex_iconst dX12_readyBits_0 rfl ?_
  refine Ex_istore_n (L2 := [_, _, _]) dX12_readyBits_1 rfl rfl rfl ?_
  refine Ex_iconst dX12_readyBits_2 rfl ?_
  refine Ex_istore_n (L2 := [_, _, _]) dX12_readyBits_3 rfl rfl rfl ?_
  refine Ex_post (x12_readyBits_l M hn hn6 hg hK n 0 0 (by omega) (by omega)) ?_
  rintro _ _ ⟨rfl, rfl⟩
  exact ⟨ri (by omega), rfl⟩
theorem x12_ready {E : am_E} {d : Nat} {h : Hp} {m n : Nat} {mm hi : Int} {K F T S C : Nat → Int} {σ : Nat → Nat → Int}  (I : MI h m (n, mm, K, F, T, S, C) hi σ) (hn6 : n ≤ 6) (hg : Rng n T S C) (hK : ∀ i, i < n → (0 ≤ K i ∧ K i ≤ 7) ∧ (0 ≤ F i ∧ F i ≤ 9)) (hB : E.2 ≤ m)  : Ex E (d + 4) mX12_ready 0 [.ref m] [] h (fun r1 h1 => r1 = some (.int (i32 (bt (rdB K F T S) 0 n))) ∧ MI h1 m (n, mm, K, F, T, S, C) hi σ ∧ Fr h h1 m (m + 23)) := by
  obtain ⟨g, ρ, kp, M, hn, h6, h23, hσ⟩ := I
  have M : MAt h m g K F T S C ρ kp := M
  have hn : g 0 = (n : Int) := hn
  have h6 : g 6 = mm := h6
  refine Ex_aload_n dX12_ready_0 rfl rfl ?_
  refine Ex_iconst dX12_ready_1 rfl ?_
  refine Ex_put12 (k0 := 13) (v := 0) dX12_ready_2 rfl (ma0 M) rfl rfl rfl rfl rfl (by omega) rfl ?_
  refine mg0 M ?_
  intro h1_ M1_ f1_
  refine Ex_aload_n dX12_ready_5 rfl rfl ?_
  refine Ex_inv 2 dX12_ready_6 rfl rfl (Or.inl rfl) rfl rfl rfl rfl (ma0 M1_) rfl rfl rfl (Ex_post (x12_readyBits M1_ hn hn6 hg hK) ?_)
  rintro _ _ ⟨rfl, e0⟩
  obtain rfl := Eq.symm e0
  refine Ex_iret dX12_ready_9 rfl rfl ?_
  exact ⟨rfl, ⟨_, _, _, M1_, hn, h6, h23, hσ⟩, f1_⟩
theorem x12_countT_l {E : am_E} {d : Nat} {h : Hp} {m n : Nat} {g K F T S C : Nat → Int} {ρ : Nat → Nat → Int} {kp : Value} {w : Int}  (M : MAt h m g K F T S C ρ kp) (hn : g 0 = (n : Int)) (hn6 : n ≤ 6) (hg : Rng n T S C)  : ∀ (k : Nat) (c : Nat) (a : Int), c + k = n → 0 ≤ a ∧ a ≤ 20 * c → Ex E (d + 1) mX12_count 60 [.ref m, .int (i32 w), .int (i32 a), .int (i32 (c : Int))] [] h (fun r1 h1 => r1 = some (.int (i32 (a + sm T c k))) ∧ h1 = h) := by
  intro k
  induction k with
  | zero =>
    intro c a hk ha
    refine Ex_iload_n dX12_count_60 rfl rfl ?_
    refine Ex_aload_n dX12_count_61 rfl rfl ?_
    refine Ex_getf dX12_count_62 rfl (ma0 M) rfl rfl rfl ?_
    refine Ex_icmp_ge (t := 83) dX12_count_65 rfl rfl (by omega) (fun c65 => ?_) (fun c65 => absurd c65 (by omega))
    refine Ex_iload_n dX12_count_83 rfl rfl ?_
    refine Ex_iret dX12_count_84 rfl rfl ?_
    exact ⟨ri (by unfold sm; omega), rfl⟩
  | succ k ih =>
    intro c a hk ha
    have hgc := hg c (by omega)
    refine Ex_iload_n dX12_count_60 rfl rfl ?_
    refine Ex_aload_n dX12_count_61 rfl rfl ?_
    refine Ex_getf dX12_count_62 rfl (ma0 M) rfl rfl rfl ?_
    refine Ex_icmp_ge (t := 83) dX12_count_65 rfl rfl (by omega) (fun c65 => absurd c65 (by omega)) (fun c65 => ?_)
    refine Ex_iload_n dX12_count_68 rfl rfl ?_
    refine Ex_aload_n dX12_count_69 rfl rfl ?_
    refine Ex_getf dX12_count_70 rfl (ma0 M) rfl rfl rfl ?_
    refine Ex_iload_n dX12_count_73 rfl rfl ?_
    refine Ex_iald12 dX12_count_74 rfl (ma3 M) rfl (by omega) ?_
    refine Ex_iadd dX12_count_75 rfl ?_
    refine Ex_istore_n (L2 := [_, _, _, _]) dX12_count_76 rfl rfl rfl ?_
    refine Ex_iinc (L2 := [_, _, _, _]) dX12_count_77 rfl rfl rfl ?_
    refine Ex_goto (t := 60) dX12_count_80 rfl ?_
    refine Ex_post (ih (c + 1) _ (by omega) ⟨by omega, by omega⟩) ?_
    rintro _ _ ⟨rfl, rfl⟩
    exact ⟨ri (by rw [show sm T c (k + 1) = T c + sm T (c + 1) k from rfl]; omega), rfl⟩
theorem x12_countC_l {E : am_E} {d : Nat} {h : Hp} {m n : Nat} {g K F T S C : Nat → Int} {ρ : Nat → Nat → Int} {kp : Value} {w : Int}  (M : MAt h m g K F T S C ρ kp) (hn : g 0 = (n : Int)) (hn6 : n ≤ 6) (hg : Rng n T S C)  : ∀ (k : Nat) (c : Nat) (a : Int), c + k = n → 0 ≤ a ∧ a ≤ 20 * c → Ex E (d + 1) mX12_count 92 [.ref m, .int (i32 w), .int (i32 a), .int (i32 (c : Int))] [] h (fun r1 h1 => r1 = some (.int (i32 (a + sm C c k))) ∧ h1 = h) := by
  intro k
  induction k with
  | zero =>
    intro c a hk ha
    refine Ex_iload_n dX12_count_92 rfl rfl ?_
    refine Ex_aload_n dX12_count_93 rfl rfl ?_
    refine Ex_getf dX12_count_94 rfl (ma0 M) rfl rfl rfl ?_
    refine Ex_icmp_ge (t := 115) dX12_count_97 rfl rfl (by omega) (fun c97 => ?_) (fun c97 => absurd c97 (by omega))
    refine Ex_iload_n dX12_count_115 rfl rfl ?_
    refine Ex_iret dX12_count_116 rfl rfl ?_
    exact ⟨ri (by unfold sm; omega), rfl⟩
  | succ k ih =>
    intro c a hk ha
    have hgc := hg c (by omega)
    refine Ex_iload_n dX12_count_92 rfl rfl ?_
    refine Ex_aload_n dX12_count_93 rfl rfl ?_
    refine Ex_getf dX12_count_94 rfl (ma0 M) rfl rfl rfl ?_
    refine Ex_icmp_ge (t := 115) dX12_count_97 rfl rfl (by omega) (fun c97 => absurd c97 (by omega)) (fun c97 => ?_)
    refine Ex_iload_n dX12_count_100 rfl rfl ?_
    refine Ex_aload_n dX12_count_101 rfl rfl ?_
    refine Ex_getf dX12_count_102 rfl (ma0 M) rfl rfl rfl ?_
    refine Ex_iload_n dX12_count_105 rfl rfl ?_
    refine Ex_iald12 dX12_count_106 rfl (ma5 M) rfl (by omega) ?_
    refine Ex_iadd dX12_count_107 rfl ?_
    refine Ex_istore_n (L2 := [_, _, _, _]) dX12_count_108 rfl rfl rfl ?_
    refine Ex_iinc (L2 := [_, _, _, _]) dX12_count_109 rfl rfl rfl ?_
    refine Ex_goto (t := 92) dX12_count_112 rfl ?_
    refine Ex_post (ih (c + 1) _ (by omega) ⟨by omega, by omega⟩) ?_
    rintro _ _ ⟨rfl, rfl⟩
    exact ⟨ri (by rw [show sm C c (k + 1) = C c + sm C (c + 1) k from rfl]; omega), rfl⟩
theorem x12_count {E : am_E} {d : Nat} {h : Hp} {m n : Nat} {mm hi : Int} {K F T S C : Nat → Int} {σ : Nat → Nat → Int} {w : Int}  (I : MI h m (n, mm, K, F, T, S, C) hi σ) (hn6 : n ≤ 6) (hg : Rng n T S C) (hK : ∀ i, i < n → (0 ≤ K i ∧ K i ≤ 7) ∧ (0 ≤ F i ∧ F i ≤ 9)) (hB : E.2 ≤ m) (hw : (-2147483648 ≤ w ∧ w ≤ 2147483647))  : Ex E (d + 1) mX12_count 0 [.ref m, .int (i32 w), .retAddr 0, .retAddr 0] [] h (fun r1 h1 => r1 = some (.int (i32 (an_count n mm T S C w))) ∧ MI h1 m (n, mm, K, F, T, S, C) hi σ ∧ Fr h h1 m (m + 23)) := by
  obtain ⟨g, ρ, kp, M, hn, h6, h23, hσ⟩ := I
  have M : MAt h m g K F T S C ρ kp := M
  have hn : g 0 = (n : Int) := hn
  have h6 : g 6 = mm := h6
  refine Ex_aload_n dX12_count_0 rfl rfl ?_
  refine Ex_iconst dX12_count_1 rfl ?_
  refine Ex_put12 (k0 := 13) (v := 0) dX12_count_2 rfl (ma0 M) rfl rfl rfl rfl rfl (by omega) rfl ?_
  refine mg0 M ?_
  intro h1_ M1_ f1_
  refine Ex_iconst dX12_count_5 rfl ?_
  refine Ex_istore_n (L2 := [_, _, _, _]) dX12_count_6 rfl rfl rfl ?_
  refine Ex_iload_n dX12_count_7 rfl rfl ?_
  rcases (show w = 0 ∨ w = 1 ∨ w = 2 ∨ w = 3 ∨ w = 4 ∨ w = 5 ∨ (w < 0 ∨ 5 < w) by omega) with e | e | e | e | e | e | e
  · subst e
    refine Ex_tabIn (off := 40) (t := 48) (0) dX12_count_8 rfl (by omega) (by omega) rfl rfl ?_
    refine Ex_aload_n dX12_count_48 rfl rfl ?_
    refine Ex_getf dX12_count_49 rfl (ma0 M1_) rfl rfl rfl ?_
    rw [show (fu g 13 0) 0 = g 0 from rfl]
    refine Ex_iret dX12_count_52 rfl rfl ?_
    exact ⟨ri hn, ⟨_, _, _, M1_, hn, h6, h23, hσ⟩, f1_⟩
  · subst e
    refine Ex_tabIn (off := 45) (t := 53) (1) dX12_count_8 rfl (by omega) (by omega) rfl rfl ?_
    refine Ex_aload_n dX12_count_53 rfl rfl ?_
    refine Ex_getf dX12_count_54 rfl (ma0 M1_) rfl rfl rfl ?_
    rw [show (fu g 13 0) 6 = g 6 from rfl]
    refine Ex_iret dX12_count_57 rfl rfl ?_
    exact ⟨ri h6, ⟨_, _, _, M1_, hn, h6, h23, hσ⟩, f1_⟩
  · subst e
    refine Ex_tabIn (off := 50) (t := 58) (2) dX12_count_8 rfl (by omega) (by omega) rfl rfl ?_
    refine Ex_iconst dX12_count_58 rfl ?_
    refine Ex_istore_n (L2 := [_, _, _, _]) dX12_count_59 rfl rfl rfl ?_
    refine Ex_post (x12_countT_l M1_ hn hn6 hg n 0 0 (by omega) (by omega)) ?_
    rintro _ _ ⟨rfl, e9⟩
    rw [e9]
    exact ⟨ri (by show 0 + sm T 0 n = an_count n mm T S C 2; simp [an_count]), ⟨_, _, _, M1_, hn, h6, h23, hσ⟩, f1_⟩
  · subst e
    refine Ex_tabIn (off := 77) (t := 85) (3) dX12_count_8 rfl (by omega) (by omega) rfl rfl ?_
    refine Ex_aload_n dX12_count_85 rfl rfl ?_
    refine Ex_inv 2 dX12_count_86 rfl rfl (Or.inl rfl) rfl rfl rfl rfl (ma0 M1_) rfl rfl rfl (Ex_post (x12_allSteps M1_ hn hn6 hg) ?_)
    rintro _ _ ⟨rfl, e0⟩
    obtain rfl := Eq.symm e0
    refine Ex_iret dX12_count_89 rfl rfl ?_
    exact ⟨rfl, ⟨_, _, _, M1_, hn, h6, h23, hσ⟩, f1_⟩
  · subst e
    refine Ex_tabIn (off := 82) (t := 90) (4) dX12_count_8 rfl (by omega) (by omega) rfl rfl ?_
    refine Ex_iconst dX12_count_90 rfl ?_
    refine Ex_istore_n (L2 := [_, _, _, _]) dX12_count_91 rfl rfl rfl ?_
    refine Ex_post (x12_countC_l M1_ hn hn6 hg n 0 0 (by omega) (by omega)) ?_
    rintro _ _ ⟨rfl, e9⟩
    rw [e9]
    exact ⟨ri (by show 0 + sm C 0 n = an_count n mm T S C 4; simp [an_count]), ⟨_, _, _, M1_, hn, h6, h23, hσ⟩, f1_⟩
  · subst e
    refine Ex_tabIn (off := 109) (t := 117) (5) dX12_count_8 rfl (by omega) (by omega) rfl rfl ?_
    refine Ex_aload_n dX12_count_117 rfl rfl ?_
    refine Ex_inv 2 dX12_count_118 rfl rfl (Or.inl rfl) rfl rfl rfl rfl (ma0 M1_) rfl rfl rfl (Ex_post (x12_swimBits M1_ hn hn6 hg hK) ?_)
    rintro _ _ ⟨rfl, e0⟩
    obtain rfl := Eq.symm e0
    refine Ex_iret dX12_count_121 rfl rfl ?_
    exact ⟨rfl, ⟨_, _, _, M1_, hn, h6, h23, hσ⟩, f1_⟩
  · refine Ex_tabOut (t := 122) dX12_count_8 rfl (by omega) e ?_
    refine Ex_iconst dX12_count_122 rfl ?_
    refine Ex_iret dX12_count_123 rfl rfl ?_
    exact ⟨ri (by unfold an_count; rw [if_neg (by omega), if_neg (by omega), if_neg (by omega), if_neg (by omega), if_neg (by omega), if_neg (by omega)]), ⟨_, _, _, M1_, hn, h6, h23, hσ⟩, f1_⟩
theorem x12_wrongKept {E : am_E} {d : Nat} {h : Hp} {m n : Nat} {g K F T S C : Nat → Int} {ρ : Nat → Nat → Int} {kp : Value} {a : Int}  (M : MAt h m g K F T S C ρ kp) (h3 : ∀ d, d < 8 → 0 ≤ ρ 6 d ∧ ρ 6 d ≤ 2) (ha : (-2147483648 ≤ a ∧ a ≤ 2147483647))  : Ex E (d + 1) mX12_wrongKept 0 [.ref m, .int (i32 a)] [] h (fun r1 h1 => r1 = some (.int (i32 (if (0 ≤ a ∧ a ≤ 7) ∧ ρ 6 a.toNat = 1 then 0 else why (ρ 6) a))) ∧ h1 = h) := by
  by_cases q : 0 ≤ a ∧ a ≤ 7
  · obtain ⟨d0, rfl⟩ := Int.eq_ofNat_of_zero_le q.1
    have hd8 : d0 < 8 := by omega
    have h33 := h3 d0 hd8
    have ew : why (ρ 6) (d0 : Int) = if ρ 6 d0 = 0 then -11 else -12 := by unfold why; rw [if_pos q]; rfl
    by_cases q1 : ρ 6 d0 = 1
    · refine Ex_iload_n dX12_wrongKept_0 rfl rfl ?_
      refine Ex_i2l dX12_wrongKept_1 rfl (by omega) ?_
      refine Ex_lconst (z := 0) dX12_wrongKept_2 rfl (by decide) ?_
      refine Ex_ldc2 (z := 7) dX12_wrongKept_3 rfl rfl ?_
      refine Ex_stat 0 dX12_wrongKept_6 rfl rfl (Or.inl rfl) rfl rfl rfl rfl rfl rfl (Ex_post (x12_in (by omega) (by omega) (by omega)) ?_)
      rintro _ _ ⟨rfl, e0⟩
      obtain rfl := Eq.symm e0
      refine Ex_if_ne (t := 16) dX12_wrongKept_9 rfl rfl (by omega) (fun c9 => ?_) (fun c9 => absurd c9 (by omega))
      refine Ex_aload_n dX12_wrongKept_16 rfl rfl ?_
      refine Ex_getf dX12_wrongKept_17 rfl (ma0 M) rfl rfl rfl ?_
      refine Ex_iload_n dX12_wrongKept_20 rfl rfl ?_
      refine Ex_iald12 dX12_wrongKept_21 rfl (ma6 M) rfl (by omega) ?_
      refine Ex_if_ne (t := 30) dX12_wrongKept_22 rfl rfl (by omega) (fun c22 => ?_) (fun c22 => absurd c22 (by omega))
      refine Ex_aload_n dX12_wrongKept_30 rfl rfl ?_
      refine Ex_getf dX12_wrongKept_31 rfl (ma0 M) rfl rfl rfl ?_
      refine Ex_iload_n dX12_wrongKept_34 rfl rfl ?_
      refine Ex_iald12 dX12_wrongKept_35 rfl (ma6 M) rfl (by omega) ?_
      refine Ex_iconst dX12_wrongKept_36 rfl ?_
      refine Ex_icmp_eq (t := 45) dX12_wrongKept_37 rfl rfl (by omega) (fun c37 => ?_) (fun c37 => absurd c37 (by omega))
      refine Ex_iconst dX12_wrongKept_45 rfl ?_
      refine Ex_iret dX12_wrongKept_46 rfl rfl ?_
      exact ⟨ri (by rw [if_pos ⟨q, q1⟩]), rfl⟩
    · rw [if_neg (fun z => q1 z.2), ew]
      by_cases q2 : ρ 6 d0 = 0
      · refine Ex_iload_n dX12_wrongKept_0 rfl rfl ?_
        refine Ex_i2l dX12_wrongKept_1 rfl (by omega) ?_
        refine Ex_lconst (z := 0) dX12_wrongKept_2 rfl (by decide) ?_
        refine Ex_ldc2 (z := 7) dX12_wrongKept_3 rfl rfl ?_
        refine Ex_stat 0 dX12_wrongKept_6 rfl rfl (Or.inl rfl) rfl rfl rfl rfl rfl rfl (Ex_post (x12_in (by omega) (by omega) (by omega)) ?_)
        rintro _ _ ⟨rfl, e0⟩
        obtain rfl := Eq.symm e0
        refine Ex_if_ne (t := 16) dX12_wrongKept_9 rfl rfl (by omega) (fun c9 => ?_) (fun c9 => absurd c9 (by omega))
        refine Ex_aload_n dX12_wrongKept_16 rfl rfl ?_
        refine Ex_getf dX12_wrongKept_17 rfl (ma0 M) rfl rfl rfl ?_
        refine Ex_iload_n dX12_wrongKept_20 rfl rfl ?_
        refine Ex_iald12 dX12_wrongKept_21 rfl (ma6 M) rfl (by omega) ?_
        refine Ex_if_ne (t := 30) dX12_wrongKept_22 rfl rfl (by omega) (fun c22 => absurd c22 (by omega)) (fun c22 => ?_)
        refine Ex_bipush dX12_wrongKept_25 rfl (by decide) ?_
        refine Ex_goto (t := 46) dX12_wrongKept_27 rfl ?_
        refine Ex_iret dX12_wrongKept_46 rfl rfl ?_
        exact ⟨ri (by rw [if_pos q2]), rfl⟩
      · refine Ex_iload_n dX12_wrongKept_0 rfl rfl ?_
        refine Ex_i2l dX12_wrongKept_1 rfl (by omega) ?_
        refine Ex_lconst (z := 0) dX12_wrongKept_2 rfl (by decide) ?_
        refine Ex_ldc2 (z := 7) dX12_wrongKept_3 rfl rfl ?_
        refine Ex_stat 0 dX12_wrongKept_6 rfl rfl (Or.inl rfl) rfl rfl rfl rfl rfl rfl (Ex_post (x12_in (by omega) (by omega) (by omega)) ?_)
        rintro _ _ ⟨rfl, e0⟩
        obtain rfl := Eq.symm e0
        refine Ex_if_ne (t := 16) dX12_wrongKept_9 rfl rfl (by omega) (fun c9 => ?_) (fun c9 => absurd c9 (by omega))
        refine Ex_aload_n dX12_wrongKept_16 rfl rfl ?_
        refine Ex_getf dX12_wrongKept_17 rfl (ma0 M) rfl rfl rfl ?_
        refine Ex_iload_n dX12_wrongKept_20 rfl rfl ?_
        refine Ex_iald12 dX12_wrongKept_21 rfl (ma6 M) rfl (by omega) ?_
        refine Ex_if_ne (t := 30) dX12_wrongKept_22 rfl rfl (by omega) (fun c22 => ?_) (fun c22 => absurd c22 (by omega))
        refine Ex_aload_n dX12_wrongKept_30 rfl rfl ?_
        refine Ex_getf dX12_wrongKept_31 rfl (ma0 M) rfl rfl rfl ?_
        refine Ex_iload_n dX12_wrongKept_34 rfl rfl ?_
        refine Ex_iald12 dX12_wrongKept_35 rfl (ma6 M) rfl (by omega) ?_
        refine Ex_iconst dX12_wrongKept_36 rfl ?_
        refine Ex_icmp_eq (t := 45) dX12_wrongKept_37 rfl rfl (by omega) (fun c37 => absurd c37 (by omega)) (fun c37 => ?_)
        refine Ex_bipush dX12_wrongKept_40 rfl (by decide) ?_
        refine Ex_goto (t := 46) dX12_wrongKept_42 rfl ?_
        refine Ex_iret dX12_wrongKept_46 rfl rfl ?_
        exact ⟨ri (by rw [if_neg q2]), rfl⟩
  · refine Ex_iload_n dX12_wrongKept_0 rfl rfl ?_
    refine Ex_i2l dX12_wrongKept_1 rfl (by omega) ?_
    refine Ex_lconst (z := 0) dX12_wrongKept_2 rfl (by decide) ?_
    refine Ex_ldc2 (z := 7) dX12_wrongKept_3 rfl rfl ?_
    refine Ex_stat 0 dX12_wrongKept_6 rfl rfl (Or.inl rfl) rfl rfl rfl rfl rfl rfl (Ex_post (x12_in (by omega) (by omega) (by omega)) ?_)
    rintro _ _ ⟨rfl, e0⟩
    obtain rfl := Eq.symm e0
    refine Ex_if_ne (t := 16) dX12_wrongKept_9 rfl rfl (by omega) (fun c9 => absurd c9 (by omega)) (fun c9 => ?_)
    refine Ex_iconst dX12_wrongKept_12 rfl ?_
    refine Ex_goto (t := 46) dX12_wrongKept_13 rfl ?_
    refine Ex_iret dX12_wrongKept_46 rfl rfl ?_
    exact ⟨ri (by rw [if_neg (fun z => q z.1)]; unfold why; rw [if_neg q]), rfl⟩
theorem x12_wrongRow {E : am_E} {d : Nat} {h : Hp} {m n : Nat} {g K F T S C : Nat → Int} {ρ : Nat → Nat → Int} {kp : Value} {a : Int}  (M : MAt h m g K F T S C ρ kp) (h3 : ∀ d, d < 8 → 0 ≤ ρ 6 d ∧ ρ 6 d ≤ 2) (ha : (-2147483648 ≤ a ∧ a ≤ 2147483647))  : Ex E (d + 1) mX12_wrongRow 0 [.ref m, .int (i32 a)] [] h (fun r1 h1 => r1 = some (.int (i32 (if (0 ≤ a ∧ a ≤ 7) ∧ ρ 6 a.toNat = 2 then 0 else why (ρ 6) a))) ∧ h1 = h) := by
  by_cases q : 0 ≤ a ∧ a ≤ 7
  · obtain ⟨d0, rfl⟩ := Int.eq_ofNat_of_zero_le q.1
    have hd8 : d0 < 8 := by omega
    have h33 := h3 d0 hd8
    have ew : why (ρ 6) (d0 : Int) = if ρ 6 d0 = 0 then -11 else -12 := by unfold why; rw [if_pos q]; rfl
    by_cases q1 : ρ 6 d0 = 2
    · refine Ex_iload_n dX12_wrongRow_0 rfl rfl ?_
      refine Ex_i2l dX12_wrongRow_1 rfl (by omega) ?_
      refine Ex_lconst (z := 0) dX12_wrongRow_2 rfl (by decide) ?_
      refine Ex_ldc2 (z := 7) dX12_wrongRow_3 rfl rfl ?_
      refine Ex_stat 0 dX12_wrongRow_6 rfl rfl (Or.inl rfl) rfl rfl rfl rfl rfl rfl (Ex_post (x12_in (by omega) (by omega) (by omega)) ?_)
      rintro _ _ ⟨rfl, e0⟩
      obtain rfl := Eq.symm e0
      refine Ex_if_ne (t := 16) dX12_wrongRow_9 rfl rfl (by omega) (fun c9 => ?_) (fun c9 => absurd c9 (by omega))
      refine Ex_aload_n dX12_wrongRow_16 rfl rfl ?_
      refine Ex_getf dX12_wrongRow_17 rfl (ma0 M) rfl rfl rfl ?_
      refine Ex_iload_n dX12_wrongRow_20 rfl rfl ?_
      refine Ex_iald12 dX12_wrongRow_21 rfl (ma6 M) rfl (by omega) ?_
      refine Ex_if_ne (t := 30) dX12_wrongRow_22 rfl rfl (by omega) (fun c22 => ?_) (fun c22 => absurd c22 (by omega))
      refine Ex_aload_n dX12_wrongRow_30 rfl rfl ?_
      refine Ex_getf dX12_wrongRow_31 rfl (ma0 M) rfl rfl rfl ?_
      refine Ex_iload_n dX12_wrongRow_34 rfl rfl ?_
      refine Ex_iald12 dX12_wrongRow_35 rfl (ma6 M) rfl (by omega) ?_
      refine Ex_iconst dX12_wrongRow_36 rfl ?_
      refine Ex_icmp_eq (t := 45) dX12_wrongRow_37 rfl rfl (by omega) (fun c37 => ?_) (fun c37 => absurd c37 (by omega))
      refine Ex_iconst dX12_wrongRow_45 rfl ?_
      refine Ex_iret dX12_wrongRow_46 rfl rfl ?_
      exact ⟨ri (by rw [if_pos ⟨q, q1⟩]), rfl⟩
    · rw [if_neg (fun z => q1 z.2), ew]
      by_cases q2 : ρ 6 d0 = 0
      · refine Ex_iload_n dX12_wrongRow_0 rfl rfl ?_
        refine Ex_i2l dX12_wrongRow_1 rfl (by omega) ?_
        refine Ex_lconst (z := 0) dX12_wrongRow_2 rfl (by decide) ?_
        refine Ex_ldc2 (z := 7) dX12_wrongRow_3 rfl rfl ?_
        refine Ex_stat 0 dX12_wrongRow_6 rfl rfl (Or.inl rfl) rfl rfl rfl rfl rfl rfl (Ex_post (x12_in (by omega) (by omega) (by omega)) ?_)
        rintro _ _ ⟨rfl, e0⟩
        obtain rfl := Eq.symm e0
        refine Ex_if_ne (t := 16) dX12_wrongRow_9 rfl rfl (by omega) (fun c9 => ?_) (fun c9 => absurd c9 (by omega))
        refine Ex_aload_n dX12_wrongRow_16 rfl rfl ?_
        refine Ex_getf dX12_wrongRow_17 rfl (ma0 M) rfl rfl rfl ?_
        refine Ex_iload_n dX12_wrongRow_20 rfl rfl ?_
        refine Ex_iald12 dX12_wrongRow_21 rfl (ma6 M) rfl (by omega) ?_
        refine Ex_if_ne (t := 30) dX12_wrongRow_22 rfl rfl (by omega) (fun c22 => absurd c22 (by omega)) (fun c22 => ?_)
        refine Ex_bipush dX12_wrongRow_25 rfl (by decide) ?_
        refine Ex_goto (t := 46) dX12_wrongRow_27 rfl ?_
        refine Ex_iret dX12_wrongRow_46 rfl rfl ?_
        exact ⟨ri (by rw [if_pos q2]), rfl⟩
      · refine Ex_iload_n dX12_wrongRow_0 rfl rfl ?_
        refine Ex_i2l dX12_wrongRow_1 rfl (by omega) ?_
        refine Ex_lconst (z := 0) dX12_wrongRow_2 rfl (by decide) ?_
        refine Ex_ldc2 (z := 7) dX12_wrongRow_3 rfl rfl ?_
        refine Ex_stat 0 dX12_wrongRow_6 rfl rfl (Or.inl rfl) rfl rfl rfl rfl rfl rfl (Ex_post (x12_in (by omega) (by omega) (by omega)) ?_)
        rintro _ _ ⟨rfl, e0⟩
        obtain rfl := Eq.symm e0
        refine Ex_if_ne (t := 16) dX12_wrongRow_9 rfl rfl (by omega) (fun c9 => ?_) (fun c9 => absurd c9 (by omega))
        refine Ex_aload_n dX12_wrongRow_16 rfl rfl ?_
        refine Ex_getf dX12_wrongRow_17 rfl (ma0 M) rfl rfl rfl ?_
        refine Ex_iload_n dX12_wrongRow_20 rfl rfl ?_
        refine Ex_iald12 dX12_wrongRow_21 rfl (ma6 M) rfl (by omega) ?_
        refine Ex_if_ne (t := 30) dX12_wrongRow_22 rfl rfl (by omega) (fun c22 => ?_) (fun c22 => absurd c22 (by omega))
        refine Ex_aload_n dX12_wrongRow_30 rfl rfl ?_
        refine Ex_getf dX12_wrongRow_31 rfl (ma0 M) rfl rfl rfl ?_
        refine Ex_iload_n dX12_wrongRow_34 rfl rfl ?_
        refine Ex_iald12 dX12_wrongRow_35 rfl (ma6 M) rfl (by omega) ?_
        refine Ex_iconst dX12_wrongRow_36 rfl ?_
        refine Ex_icmp_eq (t := 45) dX12_wrongRow_37 rfl rfl (by omega) (fun c37 => absurd c37 (by omega)) (fun c37 => ?_)
        refine Ex_bipush dX12_wrongRow_40 rfl (by decide) ?_
        refine Ex_goto (t := 46) dX12_wrongRow_42 rfl ?_
        refine Ex_iret dX12_wrongRow_46 rfl rfl ?_
        exact ⟨ri (by rw [if_neg q2]), rfl⟩
  · refine Ex_iload_n dX12_wrongRow_0 rfl rfl ?_
    refine Ex_i2l dX12_wrongRow_1 rfl (by omega) ?_
    refine Ex_lconst (z := 0) dX12_wrongRow_2 rfl (by decide) ?_
    refine Ex_ldc2 (z := 7) dX12_wrongRow_3 rfl rfl ?_
    refine Ex_stat 0 dX12_wrongRow_6 rfl rfl (Or.inl rfl) rfl rfl rfl rfl rfl rfl (Ex_post (x12_in (by omega) (by omega) (by omega)) ?_)
    rintro _ _ ⟨rfl, e0⟩
    obtain rfl := Eq.symm e0
    refine Ex_if_ne (t := 16) dX12_wrongRow_9 rfl rfl (by omega) (fun c9 => absurd c9 (by omega)) (fun c9 => ?_)
    refine Ex_iconst dX12_wrongRow_12 rfl ?_
    refine Ex_goto (t := 46) dX12_wrongRow_13 rfl ?_
    refine Ex_iret dX12_wrongRow_46 rfl rfl ?_
    exact ⟨ri (by rw [if_neg (fun z => q z.1)]; unfold why; rw [if_neg q]), rfl⟩
