/-! Child.of (by program: wip/whole/spec_i.py) -/
theorem kq {t t2 b : Nat} {a0 a1 a2 a3 a4 a5 a6 b0 b1 b2 b3 b4 b5 b6 : Int} (h : t = t2) (h0 : a0 = b0) (h1 : a1 = b1) (h2 : a2 = b2) (h3 : a3 = b3) (h4 : a4 = b4) (h5 : a5 = b5) (h6 : a6 = b6) : some ((t, [.int (i32 a0), .int (i32 a1), .int (i32 a2), .int (i32 a3), .int (i32 a4), .int (i32 a5), .int (i32 a6), .ref b]) : OC) = some (t2, [.int (i32 b0), .int (i32 b1), .int (i32 b2), .int (i32 b3), .int (i32 b4), .int (i32 b5), .int (i32 b6), .ref b]) := by
  subst h h0 h1 h2 h3 h4 h5 h6; rfl
theorem knq {g : Int → Int} {k f : Int} (h : ∀ s, g s = sp_needs k f s) : kn g = kneeds k f := by
  unfold kn kneeds
  rw [h 0, h 1, h 2, h 3, h 4, h 5, h 6]
theorem kh_k {h : Hp} {a t : Nat} {k f : Int} {a0 a1 a2 a3 a4 a5 a6 : Int} {g : Int → Int} (hk : 0 ≤ k ∧ k ≤ 7) (hf : 0 ≤ f ∧ f ≤ 9) (ht : t = ktag k) (h0 : a0 = f) (h1 : a1 = k) (h2 : a2 = sp_holds k f) (h3 : a3 = sp_fright k f) (h4 : a4 = sp_bears k f) (h5 : a5 = sp_passes k) (h6 : a6 = sp_price k f) (hg : ∀ s, g s = sp_needs k f s) : KindAt (kh h a (t, [.int (i32 a0), .int (i32 a1), .int (i32 a2), .int (i32 a3), .int (i32 a4), .int (i32 a5), .int (i32 a6), .ref (a + 1)]) (20, kn g)) a k f := by
  refine ⟨(kh_1 _ _ _ _).trans (kq ht h0 h1 h2 h3 h4 h5 h6), (kh_2 _ _ _ _).trans ?_, hk, hf⟩
  rw [knq hg]
theorem kh_o {h : Hp} {x y z : OC} {n : Nat} (q : Nat) (h1 : q ≠ h.2.1) (h2 : q ≠ h.2.1 + 1) : (kh (am_new h x n) h.2.1 y z).1 q = h.1 q := by
  simp [kh, am_new, h1, h2]
theorem x1_of {E : am_E} {d : Nat} {h : Hp} {k f : Int}  (hB : E.2 ≤ h.2.1) (hk : 0 ≤ k ∧ k ≤ 7) (hf : 0 ≤ f ∧ f ≤ 9) : Ex E (d + 4) mX1_of 0 [.int (i32 k), .int (i32 f)] [] h (fun r h1 => r = some (.ref h.2.1) ∧ KindAt h1 h.2.1 k f ∧ h1.2 = (h.2.1 + 2, h.2.2 + 16) ∧ ∀ q, q ≠ h.2.1 → q ≠ h.2.1 + 1 → h1.1 q = h.1 q) := by
  refine Ex_iload_n dX1_of_0 rfl rfl ?_
  rcases (show k = 0 ∨ k = 1 ∨ k = 2 ∨ k = 3 ∨ k = 4 ∨ k = 5 ∨ k = 6 ∨ k = 7 by omega) with e | e | e | e | e | e | e | e
  · subst e
    refine Ex_tabOut (t := 107) dX1_of_1 rfl (by omega) (by omega) ?_
    refine Ex_new dX1_of_107 rfl rfl rfl rfl ?_
    refine Ex_dup dX1_of_110 rfl rfl ?_
    refine Ex_iload_n dX1_of_111 rfl rfl ?_
    refine Ex_spec dX1_of_112 rfl rfl rfl rfl rfl rfl rfl rfl (Ex_post (x1_init (a := h.2.1) (t := 1) (by rw [am_ng, if_pos rfl]; rfl) hB rfl (by decide)) ?_)
    rintro _ _ ⟨rfl, rfl⟩
    refine Ex_aret dX1_of_115 rfl rfl ?_
    exact ⟨rfl, kh_k (by omega) hf rfl rfl rfl (by first | rfl | (simp [sp_holds, sp_fright, sp_bears, sp_passes, sp_price]; try omega)) (by first | rfl | (simp [sp_holds, sp_fright, sp_bears, sp_passes, sp_price]; try omega)) (by first | rfl | (simp [sp_holds, sp_fright, sp_bears, sp_passes, sp_price]; try omega)) (by first | rfl | (simp [sp_holds, sp_fright, sp_bears, sp_passes, sp_price]; try omega)) (by first | rfl | (simp [sp_holds, sp_fright, sp_bears, sp_passes, sp_price]; try omega)) (by intro s; simp [sp_needs]; try omega), rfl, fun q h1 h2 => kh_o q h1 h2⟩
  · subst e
    refine Ex_tabIn (off := 43) (t := 44) 1 dX1_of_1 rfl (by omega) (by omega) rfl rfl ?_
    refine Ex_new dX1_of_44 rfl rfl rfl rfl ?_
    refine Ex_dup dX1_of_47 rfl rfl ?_
    refine Ex_iload_n dX1_of_48 rfl rfl ?_
    refine Ex_spec dX1_of_49 rfl rfl rfl rfl rfl rfl rfl rfl (Ex_post (x0_init (a := h.2.1) (t := 0) (by rw [am_ng, if_pos rfl]; rfl) hB rfl (by decide) hf) ?_)
    rintro _ _ ⟨rfl, rfl⟩
    refine Ex_aret dX1_of_52 rfl rfl ?_
    exact ⟨rfl, kh_k (by omega) hf rfl rfl rfl (by first | rfl | (simp [sp_holds, sp_fright, sp_bears, sp_passes, sp_price]; try omega)) (by first | rfl | (simp [sp_holds, sp_fright, sp_bears, sp_passes, sp_price]; try omega)) (by first | rfl | (simp [sp_holds, sp_fright, sp_bears, sp_passes, sp_price]; try omega)) (by first | rfl | (simp [sp_holds, sp_fright, sp_bears, sp_passes, sp_price]; try omega)) (by first | rfl | (simp [sp_holds, sp_fright, sp_bears, sp_passes, sp_price]; try omega)) (by intro s; simp [sp_needs]; try omega), rfl, fun q h1 h2 => kh_o q h1 h2⟩
  · subst e
    refine Ex_tabIn (off := 52) (t := 53) 2 dX1_of_1 rfl (by omega) (by omega) rfl rfl ?_
    refine Ex_new dX1_of_53 rfl rfl rfl rfl ?_
    refine Ex_dup dX1_of_56 rfl rfl ?_
    refine Ex_iload_n dX1_of_57 rfl rfl ?_
    refine Ex_spec dX1_of_58 rfl rfl rfl rfl rfl rfl rfl rfl (Ex_post (x9_init (a := h.2.1) (t := 9) (by rw [am_ng, if_pos rfl]; rfl) hB rfl (by decide) hf) ?_)
    rintro _ _ ⟨rfl, rfl⟩
    refine Ex_aret dX1_of_61 rfl rfl ?_
    exact ⟨rfl, kh_k (by omega) hf rfl rfl rfl (by first | rfl | (simp [sp_holds, sp_fright, sp_bears, sp_passes, sp_price]; try omega)) (by first | rfl | (simp [sp_holds, sp_fright, sp_bears, sp_passes, sp_price]; try omega)) (by first | rfl | (simp [sp_holds, sp_fright, sp_bears, sp_passes, sp_price]; try omega)) (by first | rfl | (simp [sp_holds, sp_fright, sp_bears, sp_passes, sp_price]; try omega)) (by first | rfl | (simp [sp_holds, sp_fright, sp_bears, sp_passes, sp_price]; try omega)) (by intro s; simp [sp_needs]; try omega), rfl, fun q h1 h2 => kh_o q h1 h2⟩
  · subst e
    refine Ex_tabIn (off := 61) (t := 62) 3 dX1_of_1 rfl (by omega) (by omega) rfl rfl ?_
    refine Ex_new dX1_of_62 rfl rfl rfl rfl ?_
    refine Ex_dup dX1_of_65 rfl rfl ?_
    refine Ex_iload_n dX1_of_66 rfl rfl ?_
    refine Ex_spec dX1_of_67 rfl rfl rfl rfl rfl rfl rfl rfl (Ex_post (x10_init (a := h.2.1) (t := 10) (by rw [am_ng, if_pos rfl]; rfl) hB rfl (by decide) hf) ?_)
    rintro _ _ ⟨rfl, rfl⟩
    refine Ex_aret dX1_of_70 rfl rfl ?_
    exact ⟨rfl, kh_k (by omega) hf rfl rfl rfl (by first | rfl | (simp [sp_holds, sp_fright, sp_bears, sp_passes, sp_price]; try omega)) (by first | rfl | (simp [sp_holds, sp_fright, sp_bears, sp_passes, sp_price]; try omega)) (by first | rfl | (simp [sp_holds, sp_fright, sp_bears, sp_passes, sp_price]; try omega)) (by first | rfl | (simp [sp_holds, sp_fright, sp_bears, sp_passes, sp_price]; try omega)) (by first | rfl | (simp [sp_holds, sp_fright, sp_bears, sp_passes, sp_price]; try omega)) (by intro s; simp [sp_needs]; try omega), rfl, fun q h1 h2 => kh_o q h1 h2⟩
  · subst e
    refine Ex_tabIn (off := 70) (t := 71) 4 dX1_of_1 rfl (by omega) (by omega) rfl rfl ?_
    refine Ex_new dX1_of_71 rfl rfl rfl rfl ?_
    refine Ex_dup dX1_of_74 rfl rfl ?_
    refine Ex_iload_n dX1_of_75 rfl rfl ?_
    refine Ex_spec dX1_of_76 rfl rfl rfl rfl rfl rfl rfl rfl (Ex_post (x6_init (a := h.2.1) (t := 6) (by rw [am_ng, if_pos rfl]; rfl) hB rfl (by decide) hf) ?_)
    rintro _ _ ⟨rfl, rfl⟩
    refine Ex_aret dX1_of_79 rfl rfl ?_
    exact ⟨rfl, kh_k (by omega) hf rfl rfl rfl (by first | rfl | (simp [sp_holds, sp_fright, sp_bears, sp_passes, sp_price]; try omega)) (by first | rfl | (simp [sp_holds, sp_fright, sp_bears, sp_passes, sp_price]; try omega)) (by first | rfl | (simp [sp_holds, sp_fright, sp_bears, sp_passes, sp_price]; try omega)) (by first | rfl | (simp [sp_holds, sp_fright, sp_bears, sp_passes, sp_price]; try omega)) (by first | rfl | (simp [sp_holds, sp_fright, sp_bears, sp_passes, sp_price]; try omega)) (by intro s; simp [sp_needs]; try omega), rfl, fun q h1 h2 => kh_o q h1 h2⟩
  · subst e
    refine Ex_tabIn (off := 79) (t := 80) 5 dX1_of_1 rfl (by omega) (by omega) rfl rfl ?_
    refine Ex_new dX1_of_80 rfl rfl rfl rfl ?_
    refine Ex_dup dX1_of_83 rfl rfl ?_
    refine Ex_iload_n dX1_of_84 rfl rfl ?_
    refine Ex_spec dX1_of_85 rfl rfl rfl rfl rfl rfl rfl rfl (Ex_post (x4_init (a := h.2.1) (t := 4) (by rw [am_ng, if_pos rfl]; rfl) hB rfl (by decide) hf) ?_)
    rintro _ _ ⟨rfl, rfl⟩
    refine Ex_aret dX1_of_88 rfl rfl ?_
    exact ⟨rfl, kh_k (by omega) hf rfl rfl rfl (by first | rfl | (simp [sp_holds, sp_fright, sp_bears, sp_passes, sp_price]; try omega)) (by first | rfl | (simp [sp_holds, sp_fright, sp_bears, sp_passes, sp_price]; try omega)) (by first | rfl | (simp [sp_holds, sp_fright, sp_bears, sp_passes, sp_price]; try omega)) (by first | rfl | (simp [sp_holds, sp_fright, sp_bears, sp_passes, sp_price]; try omega)) (by first | rfl | (simp [sp_holds, sp_fright, sp_bears, sp_passes, sp_price]; try omega)) (by intro s; simp [sp_needs]; try omega), rfl, fun q h1 h2 => kh_o q h1 h2⟩
  · subst e
    refine Ex_tabIn (off := 88) (t := 89) 6 dX1_of_1 rfl (by omega) (by omega) rfl rfl ?_
    refine Ex_new dX1_of_89 rfl rfl rfl rfl ?_
    refine Ex_dup dX1_of_92 rfl rfl ?_
    refine Ex_iload_n dX1_of_93 rfl rfl ?_
    refine Ex_spec dX1_of_94 rfl rfl rfl rfl rfl rfl rfl rfl (Ex_post (x2_init (a := h.2.1) (t := 2) (by rw [am_ng, if_pos rfl]; rfl) hB rfl (by decide) hf) ?_)
    rintro _ _ ⟨rfl, rfl⟩
    refine Ex_aret dX1_of_97 rfl rfl ?_
    exact ⟨rfl, kh_k (by omega) hf rfl rfl rfl (by first | rfl | (simp [sp_holds, sp_fright, sp_bears, sp_passes, sp_price]; try omega)) (by first | rfl | (simp [sp_holds, sp_fright, sp_bears, sp_passes, sp_price]; try omega)) (by first | rfl | (simp [sp_holds, sp_fright, sp_bears, sp_passes, sp_price]; try omega)) (by first | rfl | (simp [sp_holds, sp_fright, sp_bears, sp_passes, sp_price]; try omega)) (by first | rfl | (simp [sp_holds, sp_fright, sp_bears, sp_passes, sp_price]; try omega)) (by intro s; simp [sp_needs]; try omega), rfl, fun q h1 h2 => kh_o q h1 h2⟩
  · subst e
    refine Ex_tabIn (off := 97) (t := 98) 7 dX1_of_1 rfl (by omega) (by omega) rfl rfl ?_
    refine Ex_new dX1_of_98 rfl rfl rfl rfl ?_
    refine Ex_dup dX1_of_101 rfl rfl ?_
    refine Ex_iload_n dX1_of_102 rfl rfl ?_
    refine Ex_spec dX1_of_103 rfl rfl rfl rfl rfl rfl rfl rfl (Ex_post (x3_init (a := h.2.1) (t := 3) (by rw [am_ng, if_pos rfl]; rfl) hB rfl (by decide) hf) ?_)
    rintro _ _ ⟨rfl, rfl⟩
    refine Ex_aret dX1_of_106 rfl rfl ?_
    exact ⟨rfl, kh_k (by omega) hf rfl rfl rfl (by first | rfl | (simp [sp_holds, sp_fright, sp_bears, sp_passes, sp_price]; try omega)) (by first | rfl | (simp [sp_holds, sp_fright, sp_bears, sp_passes, sp_price]; try omega)) (by first | rfl | (simp [sp_holds, sp_fright, sp_bears, sp_passes, sp_price]; try omega)) (by first | rfl | (simp [sp_holds, sp_fright, sp_bears, sp_passes, sp_price]; try omega)) (by first | rfl | (simp [sp_holds, sp_fright, sp_bears, sp_passes, sp_price]; try omega)) (by intro s; simp [sp_needs]; try omega), rfl, fun q h1 h2 => kh_o q h1 h2⟩
