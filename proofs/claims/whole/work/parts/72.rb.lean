/-! the reference: a MINUTE, a BREAK, sums, bits (by program: wip/whole/spec_rb.py) -/
theorem fu_fu (f : Nat → Int) (i : Nat) (a b : Int) : fu (fu f i a) i b = fu f i b := by
  funext j
  unfold fu
  split <;> rfl
theorem co_skf {n c i : Nat} {K F T S C : Nat → Int} (hq : i = c ∨ ¬ S i < 7) : coT n c i K F S C T = coT n c (i + 1) K F S C T ∧ coC n c i K F S C = coC n c (i + 1) K F S C := ⟨funext fun j => (co_skip hq j).1, funext fun j => (co_skip (T := T) hq j).2⟩
theorem co_stf {n c i : Nat} {K F T S C : Nat → Int} (h1 : i ≠ c) (h2 : S i < 7) : fu (coT n c i K F S C T) i (if sp_bears (K i) (F i) < min 20 (C i + 1) then sp_cl (T i - 1) else T i) = coT n c (i + 1) K F S C T ∧ fu (coC n c i K F S C) i (if sp_bears (K i) (F i) < min 20 (C i + 1) then 0 else min 20 (C i + 1)) = coC n c (i + 1) K F S C := ⟨funext fun j => (co_step h1 h2 j).1, funext fun j => (co_step (T := T) h1 h2 j).2⟩
theorem coT_0f {n c : Nat} {K F T S C : Nat → Int} : coT n c 0 K F S C T = T := funext coT_0
theorem coC_0f {n c : Nat} {K F S C : Nat → Int} : coC n c 0 K F S C = C := funext coC_0
theorem br_sf {w : Int} {c : Nat} {T S C : Nat → Int} : fu (brT w c T) c (sp_cl (T c - w)) = brT w (c + 1) T ∧ fu (brS w c S) c (if S c = 7 then 7 else max 0 (S c - w / 3)) = brS w (c + 1) S ∧ fu (brC c C) c 0 = brC (c + 1) C := ⟨funext fun j => (br_s (S := S) (C := C)).1, funext fun j => (br_s (T := T) (C := C)).2.1, funext fun j => (br_s (w := w) (T := T) (S := S)).2.2⟩
theorem brT_0f {w : Int} {T : Nat → Int} : brT w 0 T = T := funext fun j => by unfold brT; rw [if_neg (by omega)]
theorem brS_0f {w : Int} {S : Nat → Int} : brS w 0 S = S := funext fun j => by unfold brS; rw [if_neg (by omega)]
theorem brC_0f {C : Nat → Int} : brC 0 C = C := funext fun j => by unfold brC; rw [if_neg (by omega)]
theorem x12_show_l {E : am_E} {d : Nat} {h : Hp} {m n : Nat} {g K F T S C : Nat → Int} {ρ : Nat → Nat → Int} {kp : Value} {c : Nat}  (M : MAt h m g K F T S C ρ kp) (hn : g 0 = (n : Int)) (hn6 : n ≤ 6) (hg : Rng n T S C) (hB : E.2 ≤ m) (hc : c < n)  : ∀ (k : Nat) (o : Nat) (a b : Int) (v5 : Value), o + k = n → (a = 1 ∧ 0 < shg S c o) ∨ (a = 0 ∧ shg S c o = 0) → (b = 1 ∧ shg S c o = 2) ∨ (b = 0 ∧ shg S c o ≤ 1) → Ex E (d + 3) mX12_show 7 [.ref m, .int (i32 (c : Int)), .int (i32 a), .int (i32 b), .int (i32 (o : Int)), v5] [] h (fun r1 h1 => r1 = none ∧ MAt h1 m g K F (fu T c (sp_cl (T c + shg S c n))) S C ρ kp ∧ Fr h h1 m (m + 23)) := by
  intro k
  induction k with
  | zero =>
    intro o a b v5 hk hab hbb
    obtain rfl : o = n := by omega
    have hsh := shg_r S c o
    have hgc := hg c hc
    rcases (show (a = 0 ∧ b = 0 ∧ shg S c o = 0) ∨ (a = 1 ∧ b = 0 ∧ shg S c o = 1) ∨ (a = 1 ∧ b = 1 ∧ shg S c o = 2) by omega) with ⟨e1, e2, e⟩ | ⟨e1, e2, e⟩ | ⟨e1, e2, e⟩
    · rw [e]
      refine Ex_iload dX12_show_7 rfl rfl ?_
      refine Ex_aload_n dX12_show_9 rfl rfl ?_
      refine Ex_getf dX12_show_10 rfl (ma0 M) rfl rfl rfl ?_
      refine Ex_icmp_ge (t := 91) dX12_show_13 rfl rfl (by omega) (fun c13 => ?_) (fun c13 => absurd c13 (by omega))
      refine Ex_aload_n dX12_show_91 rfl rfl ?_
      refine Ex_iload_n dX12_show_92 rfl rfl ?_
      refine Ex_iload_n dX12_show_93 rfl rfl ?_
      refine Ex_if_eq (t := 101) dX12_show_94 rfl rfl (by omega) (fun c94 => ?_) (fun c94 => absurd c94 (by omega))
      refine Ex_iconst dX12_show_101 rfl ?_
      refine Ex_iload_n dX12_show_102 rfl rfl ?_
      refine Ex_if_eq (t := 110) dX12_show_103 rfl rfl (by omega) (fun c103 => ?_) (fun c103 => absurd c103 (by omega))
      refine Ex_iconst dX12_show_110 rfl ?_
      refine Ex_iadd dX12_show_111 rfl ?_
      refine Ex_inv 2 dX12_show_112 rfl rfl (Or.inl rfl) rfl rfl rfl rfl (ma0 M) rfl rfl rfl (Ex_post (x12_gains (c := (c : Int)) M hn hn6 hg hB (by omega) (by omega)) ?_)
      rintro _ h1_ ⟨rfl, M1_, f1_⟩
      refine Ex_vret dX12_show_115 rfl ?_
      rw [gT_at hc] at M1_
      exact ⟨rfl, M1_, f1_⟩
    · rw [e]
      refine Ex_iload dX12_show_7 rfl rfl ?_
      refine Ex_aload_n dX12_show_9 rfl rfl ?_
      refine Ex_getf dX12_show_10 rfl (ma0 M) rfl rfl rfl ?_
      refine Ex_icmp_ge (t := 91) dX12_show_13 rfl rfl (by omega) (fun c13 => ?_) (fun c13 => absurd c13 (by omega))
      refine Ex_aload_n dX12_show_91 rfl rfl ?_
      refine Ex_iload_n dX12_show_92 rfl rfl ?_
      refine Ex_iload_n dX12_show_93 rfl rfl ?_
      refine Ex_if_eq (t := 101) dX12_show_94 rfl rfl (by omega) (fun c94 => absurd c94 (by omega)) (fun c94 => ?_)
      refine Ex_iconst dX12_show_97 rfl ?_
      refine Ex_goto (t := 102) dX12_show_98 rfl ?_
      refine Ex_iload_n dX12_show_102 rfl rfl ?_
      refine Ex_if_eq (t := 110) dX12_show_103 rfl rfl (by omega) (fun c103 => ?_) (fun c103 => absurd c103 (by omega))
      refine Ex_iconst dX12_show_110 rfl ?_
      refine Ex_iadd dX12_show_111 rfl ?_
      refine Ex_inv 2 dX12_show_112 rfl rfl (Or.inl rfl) rfl rfl rfl rfl (ma0 M) rfl rfl rfl (Ex_post (x12_gains (c := (c : Int)) M hn hn6 hg hB (by omega) (by omega)) ?_)
      rintro _ h1_ ⟨rfl, M1_, f1_⟩
      refine Ex_vret dX12_show_115 rfl ?_
      rw [gT_at hc] at M1_
      exact ⟨rfl, M1_, f1_⟩
    · rw [e]
      refine Ex_iload dX12_show_7 rfl rfl ?_
      refine Ex_aload_n dX12_show_9 rfl rfl ?_
      refine Ex_getf dX12_show_10 rfl (ma0 M) rfl rfl rfl ?_
      refine Ex_icmp_ge (t := 91) dX12_show_13 rfl rfl (by omega) (fun c13 => ?_) (fun c13 => absurd c13 (by omega))
      refine Ex_aload_n dX12_show_91 rfl rfl ?_
      refine Ex_iload_n dX12_show_92 rfl rfl ?_
      refine Ex_iload_n dX12_show_93 rfl rfl ?_
      refine Ex_if_eq (t := 101) dX12_show_94 rfl rfl (by omega) (fun c94 => absurd c94 (by omega)) (fun c94 => ?_)
      refine Ex_iconst dX12_show_97 rfl ?_
      refine Ex_goto (t := 102) dX12_show_98 rfl ?_
      refine Ex_iload_n dX12_show_102 rfl rfl ?_
      refine Ex_if_eq (t := 110) dX12_show_103 rfl rfl (by omega) (fun c103 => absurd c103 (by omega)) (fun c103 => ?_)
      refine Ex_iconst dX12_show_106 rfl ?_
      refine Ex_goto (t := 111) dX12_show_107 rfl ?_
      refine Ex_iadd dX12_show_111 rfl ?_
      refine Ex_inv 2 dX12_show_112 rfl rfl (Or.inl rfl) rfl rfl rfl rfl (ma0 M) rfl rfl rfl (Ex_post (x12_gains (c := (c : Int)) M hn hn6 hg hB (by omega) (by omega)) ?_)
      rintro _ h1_ ⟨rfl, M1_, f1_⟩
      refine Ex_vret dX12_show_115 rfl ?_
      rw [gT_at hc] at M1_
      exact ⟨rfl, M1_, f1_⟩
  | succ k ih =>
    intro o a b v5 hk hab hbb
    have hgo := hg o (by omega)
    have hgc := hg c hc
    have hsh := shg_r S c o
    have hs1 : S c < S o → (o = c + 1 ∨ o + 1 = c) → shg S c (o + 1) = 2 := fun z1 z2 => by simp only [shg]; rw [if_pos z1, if_pos z2]; omega
    have hs2 : S c < S o → ¬ (o = c + 1 ∨ o + 1 = c) → shg S c (o + 1) = max (shg S c o) 1 := fun z1 z2 => by simp only [shg]; rw [if_pos z1, if_neg z2]
    have hs3 : ¬ S c < S o → shg S c (o + 1) = shg S c o := fun z1 => by simp only [shg]; rw [if_neg z1]
    refine Ex_iload dX12_show_7 rfl rfl ?_
    refine Ex_aload_n dX12_show_9 rfl rfl ?_
    refine Ex_getf dX12_show_10 rfl (ma0 M) rfl rfl rfl ?_
    refine Ex_icmp_ge (t := 91) dX12_show_13 rfl rfl (by omega) (fun c13 => absurd c13 (by omega)) (fun c13 => ?_)
    refine Ex_aload_n dX12_show_16 rfl rfl ?_
    refine Ex_getf dX12_show_17 rfl (ma0 M) rfl rfl rfl ?_
    refine Ex_iload dX12_show_20 rfl rfl ?_
    refine Ex_iald12 dX12_show_22 rfl (ma4 M) rfl (by omega) ?_
    refine Ex_aload_n dX12_show_23 rfl rfl ?_
    refine Ex_getf dX12_show_24 rfl (ma0 M) rfl rfl rfl ?_
    refine Ex_iload_n dX12_show_27 rfl rfl ?_
    refine Ex_iald12 dX12_show_28 rfl (ma4 M) rfl (by omega) ?_
    refine Ex_icmp_le (t := 36) dX12_show_29 rfl rfl (by omega) (fun c29 => ?_) (fun c29 => ?_)
    · refine Ex_iconst dX12_show_36 rfl ?_
      refine Ex_istore (L2 := [_, _, _, _, _, _]) dX12_show_37 rfl rfl rfl ?_
      refine Ex_iload_n dX12_show_39 rfl rfl ?_
      refine Ex_if_ne (t := 48) dX12_show_40 rfl rfl (by omega) (fun c40 => ?_) (fun c40 => ?_)
      · refine Ex_iconst dX12_show_48 rfl ?_
        refine Ex_goto (t := 53) dX12_show_49 rfl ?_
        refine Ex_istore_n (L2 := [_, _, _, _, _, _]) dX12_show_53 rfl rfl rfl ?_
        refine Ex_iload_n dX12_show_54 rfl rfl ?_
        refine Ex_if_ne (t := 79) dX12_show_55 rfl rfl (by omega) (fun c55 => ?_) (fun c55 => ?_)
        · refine Ex_iconst dX12_show_79 rfl ?_
          refine Ex_goto (t := 84) dX12_show_80 rfl ?_
          refine Ex_istore_n (L2 := [_, _, _, _, _, _]) dX12_show_84 rfl rfl rfl ?_
          refine Ex_iinc (L2 := [_, _, _, _, _, _]) dX12_show_85 rfl rfl rfl ?_
          refine Ex_goto (t := 7) dX12_show_88 rfl ?_
          exact ih (o + 1) _ _ _ (by omega) (by omega) (by omega)
        · refine Ex_iload dX12_show_58 rfl rfl ?_
          refine Ex_if_eq (t := 83) dX12_show_60 rfl rfl (by omega) (fun c60 => ?_) (fun c60 => absurd c60 (by omega))
          refine Ex_iconst dX12_show_83 rfl ?_
          refine Ex_istore_n (L2 := [_, _, _, _, _, _]) dX12_show_84 rfl rfl rfl ?_
          refine Ex_iinc (L2 := [_, _, _, _, _, _]) dX12_show_85 rfl rfl rfl ?_
          refine Ex_goto (t := 7) dX12_show_88 rfl ?_
          exact ih (o + 1) _ _ _ (by omega) (by omega) (by omega)
      · refine Ex_iload dX12_show_43 rfl rfl ?_
        refine Ex_if_eq (t := 52) dX12_show_45 rfl rfl (by omega) (fun c45 => ?_) (fun c45 => absurd c45 (by omega))
        refine Ex_iconst dX12_show_52 rfl ?_
        refine Ex_istore_n (L2 := [_, _, _, _, _, _]) dX12_show_53 rfl rfl rfl ?_
        refine Ex_iload_n dX12_show_54 rfl rfl ?_
        refine Ex_if_ne (t := 79) dX12_show_55 rfl rfl (by omega) (fun c55 => ?_) (fun c55 => ?_)
        · refine Ex_iconst dX12_show_79 rfl ?_
          refine Ex_goto (t := 84) dX12_show_80 rfl ?_
          refine Ex_istore_n (L2 := [_, _, _, _, _, _]) dX12_show_84 rfl rfl rfl ?_
          refine Ex_iinc (L2 := [_, _, _, _, _, _]) dX12_show_85 rfl rfl rfl ?_
          refine Ex_goto (t := 7) dX12_show_88 rfl ?_
          exact ih (o + 1) _ _ _ (by omega) (by omega) (by omega)
        · refine Ex_iload dX12_show_58 rfl rfl ?_
          refine Ex_if_eq (t := 83) dX12_show_60 rfl rfl (by omega) (fun c60 => ?_) (fun c60 => absurd c60 (by omega))
          refine Ex_iconst dX12_show_83 rfl ?_
          refine Ex_istore_n (L2 := [_, _, _, _, _, _]) dX12_show_84 rfl rfl rfl ?_
          refine Ex_iinc (L2 := [_, _, _, _, _, _]) dX12_show_85 rfl rfl rfl ?_
          refine Ex_goto (t := 7) dX12_show_88 rfl ?_
          exact ih (o + 1) _ _ _ (by omega) (by omega) (by omega)
    · refine Ex_iconst dX12_show_32 rfl ?_
      refine Ex_goto (t := 37) dX12_show_33 rfl ?_
      refine Ex_istore (L2 := [_, _, _, _, _, _]) dX12_show_37 rfl rfl rfl ?_
      refine Ex_iload_n dX12_show_39 rfl rfl ?_
      refine Ex_if_ne (t := 48) dX12_show_40 rfl rfl (by omega) (fun c40 => ?_) (fun c40 => ?_)
      · refine Ex_iconst dX12_show_48 rfl ?_
        refine Ex_goto (t := 53) dX12_show_49 rfl ?_
        refine Ex_istore_n (L2 := [_, _, _, _, _, _]) dX12_show_53 rfl rfl rfl ?_
        refine Ex_iload_n dX12_show_54 rfl rfl ?_
        refine Ex_if_ne (t := 79) dX12_show_55 rfl rfl (by omega) (fun c55 => ?_) (fun c55 => ?_)
        · refine Ex_iconst dX12_show_79 rfl ?_
          refine Ex_goto (t := 84) dX12_show_80 rfl ?_
          refine Ex_istore_n (L2 := [_, _, _, _, _, _]) dX12_show_84 rfl rfl rfl ?_
          refine Ex_iinc (L2 := [_, _, _, _, _, _]) dX12_show_85 rfl rfl rfl ?_
          refine Ex_goto (t := 7) dX12_show_88 rfl ?_
          exact ih (o + 1) _ _ _ (by omega) (by omega) (by omega)
        · refine Ex_iload dX12_show_58 rfl rfl ?_
          refine Ex_if_eq (t := 83) dX12_show_60 rfl rfl (by omega) (fun c60 => absurd c60 (by omega)) (fun c60 => ?_)
          refine Ex_iload dX12_show_63 rfl rfl ?_
          refine Ex_iload_n dX12_show_65 rfl rfl ?_
          refine Ex_iconst dX12_show_66 rfl ?_
          refine Ex_isub dX12_show_67 rfl ?_
          refine Ex_icmp_eq (t := 79) dX12_show_68 rfl rfl (by omega) (fun c68 => ?_) (fun c68 => ?_)
          · refine Ex_iconst dX12_show_79 rfl ?_
            refine Ex_goto (t := 84) dX12_show_80 rfl ?_
            refine Ex_istore_n (L2 := [_, _, _, _, _, _]) dX12_show_84 rfl rfl rfl ?_
            refine Ex_iinc (L2 := [_, _, _, _, _, _]) dX12_show_85 rfl rfl rfl ?_
            refine Ex_goto (t := 7) dX12_show_88 rfl ?_
            exact ih (o + 1) _ _ _ (by omega) (by omega) (by omega)
          · refine Ex_iload dX12_show_71 rfl rfl ?_
            refine Ex_iload_n dX12_show_73 rfl rfl ?_
            refine Ex_iconst dX12_show_74 rfl ?_
            refine Ex_iadd dX12_show_75 rfl ?_
            refine Ex_icmp_ne (t := 83) dX12_show_76 rfl rfl (by omega) (fun c76 => ?_) (fun c76 => ?_)
            · refine Ex_iconst dX12_show_83 rfl ?_
              refine Ex_istore_n (L2 := [_, _, _, _, _, _]) dX12_show_84 rfl rfl rfl ?_
              refine Ex_iinc (L2 := [_, _, _, _, _, _]) dX12_show_85 rfl rfl rfl ?_
              refine Ex_goto (t := 7) dX12_show_88 rfl ?_
              exact ih (o + 1) _ _ _ (by omega) (by omega) (by omega)
            · refine Ex_iconst dX12_show_79 rfl ?_
              refine Ex_goto (t := 84) dX12_show_80 rfl ?_
              refine Ex_istore_n (L2 := [_, _, _, _, _, _]) dX12_show_84 rfl rfl rfl ?_
              refine Ex_iinc (L2 := [_, _, _, _, _, _]) dX12_show_85 rfl rfl rfl ?_
              refine Ex_goto (t := 7) dX12_show_88 rfl ?_
              exact ih (o + 1) _ _ _ (by omega) (by omega) (by omega)
      · refine Ex_iload dX12_show_43 rfl rfl ?_
        refine Ex_if_eq (t := 52) dX12_show_45 rfl rfl (by omega) (fun c45 => absurd c45 (by omega)) (fun c45 => ?_)
        refine Ex_iconst dX12_show_48 rfl ?_
        refine Ex_goto (t := 53) dX12_show_49 rfl ?_
        refine Ex_istore_n (L2 := [_, _, _, _, _, _]) dX12_show_53 rfl rfl rfl ?_
        refine Ex_iload_n dX12_show_54 rfl rfl ?_
        refine Ex_if_ne (t := 79) dX12_show_55 rfl rfl (by omega) (fun c55 => ?_) (fun c55 => ?_)
        · refine Ex_iconst dX12_show_79 rfl ?_
          refine Ex_goto (t := 84) dX12_show_80 rfl ?_
          refine Ex_istore_n (L2 := [_, _, _, _, _, _]) dX12_show_84 rfl rfl rfl ?_
          refine Ex_iinc (L2 := [_, _, _, _, _, _]) dX12_show_85 rfl rfl rfl ?_
          refine Ex_goto (t := 7) dX12_show_88 rfl ?_
          exact ih (o + 1) _ _ _ (by omega) (by omega) (by omega)
        · refine Ex_iload dX12_show_58 rfl rfl ?_
          refine Ex_if_eq (t := 83) dX12_show_60 rfl rfl (by omega) (fun c60 => absurd c60 (by omega)) (fun c60 => ?_)
          refine Ex_iload dX12_show_63 rfl rfl ?_
          refine Ex_iload_n dX12_show_65 rfl rfl ?_
          refine Ex_iconst dX12_show_66 rfl ?_
          refine Ex_isub dX12_show_67 rfl ?_
          refine Ex_icmp_eq (t := 79) dX12_show_68 rfl rfl (by omega) (fun c68 => ?_) (fun c68 => ?_)
          · refine Ex_iconst dX12_show_79 rfl ?_
            refine Ex_goto (t := 84) dX12_show_80 rfl ?_
            refine Ex_istore_n (L2 := [_, _, _, _, _, _]) dX12_show_84 rfl rfl rfl ?_
            refine Ex_iinc (L2 := [_, _, _, _, _, _]) dX12_show_85 rfl rfl rfl ?_
            refine Ex_goto (t := 7) dX12_show_88 rfl ?_
            exact ih (o + 1) _ _ _ (by omega) (by omega) (by omega)
          · refine Ex_iload dX12_show_71 rfl rfl ?_
            refine Ex_iload_n dX12_show_73 rfl rfl ?_
            refine Ex_iconst dX12_show_74 rfl ?_
            refine Ex_iadd dX12_show_75 rfl ?_
            refine Ex_icmp_ne (t := 83) dX12_show_76 rfl rfl (by omega) (fun c76 => ?_) (fun c76 => ?_)
            · refine Ex_iconst dX12_show_83 rfl ?_
              refine Ex_istore_n (L2 := [_, _, _, _, _, _]) dX12_show_84 rfl rfl rfl ?_
              refine Ex_iinc (L2 := [_, _, _, _, _, _]) dX12_show_85 rfl rfl rfl ?_
              refine Ex_goto (t := 7) dX12_show_88 rfl ?_
              exact ih (o + 1) _ _ _ (by omega) (by omega) (by omega)
            · refine Ex_iconst dX12_show_79 rfl ?_
              refine Ex_goto (t := 84) dX12_show_80 rfl ?_
              refine Ex_istore_n (L2 := [_, _, _, _, _, _]) dX12_show_84 rfl rfl rfl ?_
              refine Ex_iinc (L2 := [_, _, _, _, _, _]) dX12_show_85 rfl rfl rfl ?_
              refine Ex_goto (t := 7) dX12_show_88 rfl ?_
              exact ih (o + 1) _ _ _ (by omega) (by omega) (by omega)
theorem x12_show {E : am_E} {d : Nat} {h : Hp} {m n : Nat} {g K F T S C : Nat → Int} {ρ : Nat → Nat → Int} {kp : Value} {c : Nat}  (M : MAt h m g K F T S C ρ kp) (hn : g 0 = (n : Int)) (hn6 : n ≤ 6) (hg : Rng n T S C) (hB : E.2 ≤ m) (hc : c < n)  : Ex E (d + 3) mX12_show 0 [.ref m, .int (i32 (c : Int)), .retAddr 0, .retAddr 0, .retAddr 0, .retAddr 0] [] h (fun r1 h1 => r1 = none ∧ MAt h1 m g K F (fu T c (sp_cl (T c + shg S c n))) S C ρ kp ∧ Fr h h1 m (m + 23)) := by
  refine Ex_iconst dX12_show_0 rfl ?_
  refine Ex_istore_n (L2 := [_, _, _, _, _, _]) dX12_show_1 rfl rfl rfl ?_
  refine Ex_iconst dX12_show_2 rfl ?_
  refine Ex_istore_n (L2 := [_, _, _, _, _, _]) dX12_show_3 rfl rfl rfl ?_
  refine Ex_iconst dX12_show_4 rfl ?_
  refine Ex_istore (L2 := [_, _, _, _, _, _]) dX12_show_5 rfl rfl rfl ?_
  exact x12_show_l M hn hn6 hg hB hc n 0 0 0 _ (by omega) (Or.inr ⟨rfl, rfl⟩) (Or.inr ⟨rfl, by simp [shg]⟩)
theorem x12_colder_l {E : am_E} {d : Nat} {m n : Nat} {g K F T S C : Nat → Int} {ρ : Nat → Nat → Int} {kp : Value} {c : Nat}  (hn : g 0 = (n : Int)) (hn6 : n ≤ 6) (hg : Rng n T S C) (hK : ∀ i, i < n → (0 ≤ K i ∧ K i ≤ 7) ∧ (0 ≤ F i ∧ F i ≤ 9)) (hB : E.2 ≤ m) (hc : c < n)  : ∀ (k : Nat) (o : Nat) (h : Hp), o + k = n → MAt h m g K F (coT n c o K F S C T) S (coC n c o K F S C) ρ kp → Ex E (d + 3) mX12_colder 2 [.ref m, .int (i32 (c : Int)), .int (i32 (o : Int))] [] h (fun r1 h1 => r1 = none ∧ MAt h1 m g K F (coT n c n K F S C T) S (coC n c n K F S C) ρ kp ∧ Fr h h1 m (m + 23)) := by
  intro k
  induction k with
  | zero =>
    intro o h hk M
    refine Ex_iload_n dX12_colder_2 rfl rfl ?_
    refine Ex_aload_n dX12_colder_3 rfl rfl ?_
    refine Ex_getf dX12_colder_4 rfl (ma0 M) rfl rfl rfl ?_
    refine Ex_icmp_ge (t := 78) dX12_colder_7 rfl rfl (by omega) (fun c7 => ?_) (fun c7 => absurd c7 (by omega))
    refine Ex_vret dX12_colder_78 rfl ?_
    obtain rfl : o = n := by omega
    exact ⟨rfl, M, Fr.rf _ _ _⟩
  | succ k ih =>
    intro o h hk M
    have hgo := hg o (by omega)
    have hKo := hK o (by omega)
    have hbo := sp_bears_r (k := K o) hKo.2
    have e1 : coT n c o K F S C T o = T o := by unfold coT; rw [if_neg (by omega)]
    have e2 : coC n c o K F S C o = C o := by unfold coC; rw [if_neg (by omega)]
    by_cases q1 : o = c
    rotate_left
    by_cases q2 : S o < 7
    rotate_left
    · refine Ex_iload_n dX12_colder_2 rfl rfl ?_
      refine Ex_aload_n dX12_colder_3 rfl rfl ?_
      refine Ex_getf dX12_colder_4 rfl (ma0 M) rfl rfl rfl ?_
      refine Ex_icmp_ge (t := 78) dX12_colder_7 rfl rfl (by omega) (fun c7 => absurd c7 (by omega)) (fun c7 => ?_)
      refine Ex_iload_n dX12_colder_10 rfl rfl ?_
      refine Ex_iload_n dX12_colder_11 rfl rfl ?_
      refine Ex_icmp_eq (t := 72) dX12_colder_12 rfl rfl (by omega) (fun c12 => absurd c12 (by omega)) (fun c12 => ?_)
      refine Ex_aload_n dX12_colder_15 rfl rfl ?_
      refine Ex_getf dX12_colder_16 rfl (ma0 M) rfl rfl rfl ?_
      refine Ex_iload_n dX12_colder_19 rfl rfl ?_
      refine Ex_iald12 dX12_colder_20 rfl (ma4 M) rfl (by omega) ?_
      refine Ex_bipush dX12_colder_21 rfl (by decide) ?_
      refine Ex_icmp_ge (t := 72) dX12_colder_23 rfl rfl (by omega) (fun c23 => ?_) (fun c23 => absurd c23 (by omega))
      refine Ex_iinc (L2 := [_, _, _]) dX12_colder_72 rfl rfl rfl ?_
      refine Ex_goto (t := 2) dX12_colder_75 rfl ?_
      have M9 : MAt h m g K F (coT n c (o + 1) K F S C T) S (coC n c (o + 1) K F S C) ρ kp := by
        have ef := co_skf (n := n) (c := c) (i := o) (K := K) (F := F) (T := T) (S := S) (C := C) (by omega)
        rw [← ef.1, ← ef.2]; exact M
      exact ih (o + 1) h (by omega) M9
    · refine Ex_iload_n dX12_colder_2 rfl rfl ?_
      refine Ex_aload_n dX12_colder_3 rfl rfl ?_
      refine Ex_getf dX12_colder_4 rfl (ma0 M) rfl rfl rfl ?_
      refine Ex_icmp_ge (t := 78) dX12_colder_7 rfl rfl (by omega) (fun c7 => absurd c7 (by omega)) (fun c7 => ?_)
      refine Ex_iload_n dX12_colder_10 rfl rfl ?_
      refine Ex_iload_n dX12_colder_11 rfl rfl ?_
      refine Ex_icmp_eq (t := 72) dX12_colder_12 rfl rfl (by omega) (fun c12 => ?_) (fun c12 => absurd c12 (by omega))
      refine Ex_iinc (L2 := [_, _, _]) dX12_colder_72 rfl rfl rfl ?_
      refine Ex_goto (t := 2) dX12_colder_75 rfl ?_
      have M9 : MAt h m g K F (coT n c (o + 1) K F S C T) S (coC n c (o + 1) K F S C) ρ kp := by
        have ef := co_skf (n := n) (c := c) (i := o) (K := K) (F := F) (T := T) (S := S) (C := C) (by omega)
        rw [← ef.1, ← ef.2]; exact M
      exact ih (o + 1) h (by omega) M9
    · by_cases q3 : sp_bears (K o) (F o) < min 20 (C o + 1)
      all_goals have ef := co_stf (n := n) (c := c) (i := o) (K := K) (F := F) (T := T) (S := S) (C := C) q1 q2
      · have e20 : hl (C o + 1) 20 = min 20 (C o + 1) := by unfold hl; rw [if_neg (by omega)]; split <;> omega
        have hgA : Rng n (coT n c o K F S C T) S (fu (fu (coC n c o K F S C) o (min 20 (C o + 1))) o 0) := by
          rw [fu_fu]
          have := (co_r (c := c) (o2 := o) (K := K) (F := F) hg).fu (i := o) (t := T o) (s := S o) (c := 0) hgo.1 hgo.2.1 (by omega)
          rw [fu_same, show fu (coT n c o K F S C T) o (T o) = coT n c o K F S C T by rw [← e1]; exact fu_same _ _] at this
          exact this
        refine Ex_iload_n dX12_colder_2 rfl rfl ?_
        refine Ex_aload_n dX12_colder_3 rfl rfl ?_
        refine Ex_getf dX12_colder_4 rfl (ma0 M) rfl rfl rfl ?_
        refine Ex_icmp_ge (t := 78) dX12_colder_7 rfl rfl (by omega) (fun c7 => absurd c7 (by omega)) (fun c7 => ?_)
        refine Ex_iload_n dX12_colder_10 rfl rfl ?_
        refine Ex_iload_n dX12_colder_11 rfl rfl ?_
        refine Ex_icmp_eq (t := 72) dX12_colder_12 rfl rfl (by omega) (fun c12 => absurd c12 (by omega)) (fun c12 => ?_)
        refine Ex_aload_n dX12_colder_15 rfl rfl ?_
        refine Ex_getf dX12_colder_16 rfl (ma0 M) rfl rfl rfl ?_
        refine Ex_iload_n dX12_colder_19 rfl rfl ?_
        refine Ex_iald12 dX12_colder_20 rfl (ma4 M) rfl (by omega) ?_
        refine Ex_bipush dX12_colder_21 rfl (by decide) ?_
        refine Ex_icmp_ge (t := 72) dX12_colder_23 rfl rfl (by omega) (fun c23 => absurd c23 (by omega)) (fun c23 => ?_)
        refine Ex_aload_n dX12_colder_26 rfl rfl ?_
        refine Ex_getf dX12_colder_27 rfl (ma0 M) rfl rfl rfl ?_
        refine Ex_iload_n dX12_colder_30 rfl rfl ?_
        refine Ex_aload_n dX12_colder_31 rfl rfl ?_
        refine Ex_getf dX12_colder_32 rfl (ma0 M) rfl rfl rfl ?_
        refine Ex_iload_n dX12_colder_35 rfl rfl ?_
        refine Ex_iald12 dX12_colder_36 rfl (ma5 M) rfl (by omega) ?_
        rw [e2]
        refine Ex_iconst dX12_colder_37 rfl ?_
        refine Ex_iadd dX12_colder_38 rfl ?_
        refine Ex_bipush dX12_colder_39 rfl (by decide) ?_
        refine Ex_stat 0 dX12_colder_41 rfl rfl (Or.inl rfl) rfl rfl rfl rfl rfl rfl (Ex_post (x12_held (by omega) (by omega)) ?_)
        rintro _ _ ⟨rfl, e0⟩
        obtain rfl := Eq.symm e0
        rw [e20]
        refine Ex_iast12 dX12_colder_44 rfl (ma5 M) rfl (by omega) (by omega) ?_
        refine mg5 M ?_
        intro h1_ M1_ f1_
        refine Ex_aload_n dX12_colder_45 rfl rfl ?_
        refine Ex_getf dX12_colder_46 rfl (ma0 M1_) rfl rfl rfl ?_
        refine Ex_iload_n dX12_colder_49 rfl rfl ?_
        refine Ex_iald12 dX12_colder_50 rfl (ma5 M1_) rfl (by omega) ?_
        rw [fu_at]
        refine Ex_aload_n dX12_colder_51 rfl rfl ?_
        refine Ex_iload_n dX12_colder_52 rfl rfl ?_
        refine Ex_inv 2 dX12_colder_53 rfl rfl (Or.inl rfl) rfl rfl rfl rfl (ma0 M1_) rfl rfl rfl (Ex_post (x12_bearsOf M1_ hn6 hK (by omega)) ?_)
        rintro _ _ ⟨rfl, e0⟩
        obtain rfl := Eq.symm e0
        refine Ex_icmp_le (t := 72) dX12_colder_56 rfl rfl (by omega) (fun c56 => absurd c56 (by omega)) (fun c56 => ?_)
        refine Ex_aload_n dX12_colder_59 rfl rfl ?_
        refine Ex_getf dX12_colder_60 rfl (ma0 M1_) rfl rfl rfl ?_
        refine Ex_iload_n dX12_colder_63 rfl rfl ?_
        refine Ex_iconst dX12_colder_64 rfl ?_
        refine Ex_iast12 dX12_colder_65 rfl (ma5 M1_) rfl (by omega) (by omega) ?_
        refine mg5 M1_ ?_
        intro h2_ M2_ f2_
        refine Ex_aload_n dX12_colder_66 rfl rfl ?_
        refine Ex_iload_n dX12_colder_67 rfl rfl ?_
        refine Ex_iconst dX12_colder_68 rfl ?_
        refine Ex_inv 2 dX12_colder_69 rfl rfl (Or.inl rfl) rfl rfl rfl rfl (ma0 M2_) rfl rfl rfl (Ex_post (x12_gains (c := (o : Int)) M2_ hn hn6 hgA hB (by omega) (by omega)) ?_)
        rintro _ h3_ ⟨rfl, M3_, f3_⟩
        refine Ex_iinc (L2 := [_, _, _]) dX12_colder_72 rfl rfl rfl ?_
        refine Ex_goto (t := 2) dX12_colder_75 rfl ?_
        rw [gT_at (by omega), e1, fu_fu] at M3_
        rw [if_pos q3, if_pos q3] at ef
        rw [show T o + -1 = T o - 1 by omega, ef.1, ef.2] at M3_
        refine Ex_post (ih (o + 1) h3_ (by omega) M3_) ?_
        rintro r1 h1 ⟨rfl, y1, y2⟩
        exact ⟨rfl, y1, (f1_.trans (f2_.trans f3_)).trans y2⟩
      · have e20 : hl (C o + 1) 20 = min 20 (C o + 1) := by unfold hl; rw [if_neg (by omega)]; split <;> omega
        refine Ex_iload_n dX12_colder_2 rfl rfl ?_
        refine Ex_aload_n dX12_colder_3 rfl rfl ?_
        refine Ex_getf dX12_colder_4 rfl (ma0 M) rfl rfl rfl ?_
        refine Ex_icmp_ge (t := 78) dX12_colder_7 rfl rfl (by omega) (fun c7 => absurd c7 (by omega)) (fun c7 => ?_)
        refine Ex_iload_n dX12_colder_10 rfl rfl ?_
        refine Ex_iload_n dX12_colder_11 rfl rfl ?_
        refine Ex_icmp_eq (t := 72) dX12_colder_12 rfl rfl (by omega) (fun c12 => absurd c12 (by omega)) (fun c12 => ?_)
        refine Ex_aload_n dX12_colder_15 rfl rfl ?_
        refine Ex_getf dX12_colder_16 rfl (ma0 M) rfl rfl rfl ?_
        refine Ex_iload_n dX12_colder_19 rfl rfl ?_
        refine Ex_iald12 dX12_colder_20 rfl (ma4 M) rfl (by omega) ?_
        refine Ex_bipush dX12_colder_21 rfl (by decide) ?_
        refine Ex_icmp_ge (t := 72) dX12_colder_23 rfl rfl (by omega) (fun c23 => absurd c23 (by omega)) (fun c23 => ?_)
        refine Ex_aload_n dX12_colder_26 rfl rfl ?_
        refine Ex_getf dX12_colder_27 rfl (ma0 M) rfl rfl rfl ?_
        refine Ex_iload_n dX12_colder_30 rfl rfl ?_
        refine Ex_aload_n dX12_colder_31 rfl rfl ?_
        refine Ex_getf dX12_colder_32 rfl (ma0 M) rfl rfl rfl ?_
        refine Ex_iload_n dX12_colder_35 rfl rfl ?_
        refine Ex_iald12 dX12_colder_36 rfl (ma5 M) rfl (by omega) ?_
        rw [e2]
        refine Ex_iconst dX12_colder_37 rfl ?_
        refine Ex_iadd dX12_colder_38 rfl ?_
        refine Ex_bipush dX12_colder_39 rfl (by decide) ?_
        refine Ex_stat 0 dX12_colder_41 rfl rfl (Or.inl rfl) rfl rfl rfl rfl rfl rfl (Ex_post (x12_held (by omega) (by omega)) ?_)
        rintro _ _ ⟨rfl, e0⟩
        obtain rfl := Eq.symm e0
        rw [e20]
        refine Ex_iast12 dX12_colder_44 rfl (ma5 M) rfl (by omega) (by omega) ?_
        refine mg5 M ?_
        intro h1_ M1_ f1_
        refine Ex_aload_n dX12_colder_45 rfl rfl ?_
        refine Ex_getf dX12_colder_46 rfl (ma0 M1_) rfl rfl rfl ?_
        refine Ex_iload_n dX12_colder_49 rfl rfl ?_
        refine Ex_iald12 dX12_colder_50 rfl (ma5 M1_) rfl (by omega) ?_
        rw [fu_at]
        refine Ex_aload_n dX12_colder_51 rfl rfl ?_
        refine Ex_iload_n dX12_colder_52 rfl rfl ?_
        refine Ex_inv 2 dX12_colder_53 rfl rfl (Or.inl rfl) rfl rfl rfl rfl (ma0 M1_) rfl rfl rfl (Ex_post (x12_bearsOf M1_ hn6 hK (by omega)) ?_)
        rintro _ _ ⟨rfl, e0⟩
        obtain rfl := Eq.symm e0
        refine Ex_icmp_le (t := 72) dX12_colder_56 rfl rfl (by omega) (fun c56 => ?_) (fun c56 => absurd c56 (by omega))
        refine Ex_iinc (L2 := [_, _, _]) dX12_colder_72 rfl rfl rfl ?_
        refine Ex_goto (t := 2) dX12_colder_75 rfl ?_
        rw [if_neg q3, if_neg q3] at ef
        rw [ef.2] at M1_
        have eT : coT n c (o + 1) K F S C T = coT n c o K F S C T := by rw [← ef.1, ← e1]; exact fu_same _ _
        rw [← eT] at M1_
        refine Ex_post (ih (o + 1) h1_ (by omega) M1_) ?_
        rintro r1 h1 ⟨rfl, y1, y2⟩
        exact ⟨rfl, y1, f1_.trans y2⟩
theorem x12_colder {E : am_E} {d : Nat} {h : Hp} {m n : Nat} {g K F T S C : Nat → Int} {ρ : Nat → Nat → Int} {kp : Value} {c : Nat}  (M : MAt h m g K F T S C ρ kp) (hn : g 0 = (n : Int)) (hn6 : n ≤ 6) (hg : Rng n T S C) (hK : ∀ i, i < n → (0 ≤ K i ∧ K i ≤ 7) ∧ (0 ≤ F i ∧ F i ≤ 9)) (hB : E.2 ≤ m) (hc : c < n)  : Ex E (d + 3) mX12_colder 0 [.ref m, .int (i32 (c : Int)), .retAddr 0] [] h (fun r1 h1 => r1 = none ∧ MAt h1 m g K F (coT n c n K F S C T) S (coC n c n K F S C) ρ kp ∧ Fr h h1 m (m + 23)) := by
  refine Ex_iconst dX12_colder_0 rfl ?_
  refine Ex_istore_n (L2 := [_, _, _]) dX12_colder_1 rfl rfl rfl ?_
  exact x12_colder_l hn hn6 hg hK hB hc n 0 h (by omega) (by rw [coT_0f, coC_0f]; exact M)
theorem x12_goMinute {E : am_E} {d : Nat} {h : Hp} {m n : Nat} {g K F T S C : Nat → Int} {ρ : Nat → Nat → Int} {kp : Value} {c : Nat} {w : Int}  (M : MAt h m g K F T S C ρ kp) (hn : g 0 = (n : Int)) (hn6 : n ≤ 6) (hg : Rng n T S C) (hK : ∀ i, i < n → (0 ≤ K i ∧ K i ≤ 7) ∧ (0 ≤ F i ∧ F i ≤ 9)) (hB : E.2 ≤ m) (hc : c < n) (hs : S c < 7) (hw : 0 ≤ w ∧ w ≤ 3)  : Ex E (d + 4) mX12_goMinute 0 [.ref m, .int (i32 (c : Int)), .int (i32 w)] [] h (fun r1 h1 => r1 = none ∧ MAt h1 m (fu g 6 (g 6 + 1)) K F (minT n c w K F T S C) (mnS c w K F T S) (minC n c w K F T S C) ρ kp ∧ Fr h h1 m (m + 23)) := by
  have hgc := hg c hc
  have hKc := hK c hc
  have hho := sp_holds_r (k := K c) hKc.2
  have hnr := sp_needs_r (k := K c) hKc.2 hgc.2.1
  have hm := mn_r (K := K) (F := F) (way := w) hg (fun i hi => (hK i hi).2) hc hs
  rcases (show w = 0 ∨ w = 1 ∨ w = 2 ∨ w = 3 by omega) with e | e | e | e
  all_goals subst e
  · have eT : mnT n c 0 K F T S = gT n (c : Int) (sp_holds (K c) (F c)) T := by
      rw [gT_at hc]; unfold mnT; rw [if_neg (by decide), if_neg (by decide), sp_mt_0]
    have eS : mnS c 0 K F T S = S := by unfold mnS; rw [if_neg (by decide), sp_ms_0, fu_same]
    refine Ex_iload_n dX12_goMinute_0 rfl rfl ?_
    skip
    · refine Ex_tabIn (off := 27) (t := 28) (0) dX12_goMinute_1 rfl (by omega) (by omega) rfl rfl ?_
      refine Ex_aload_n dX12_goMinute_28 rfl rfl ?_
      refine Ex_iload_n dX12_goMinute_29 rfl rfl ?_
      refine Ex_aload_n dX12_goMinute_30 rfl rfl ?_
      refine Ex_iload_n dX12_goMinute_31 rfl rfl ?_
      refine Ex_inv 2 dX12_goMinute_32 rfl rfl (Or.inl rfl) rfl rfl rfl rfl (ma0 M) rfl rfl rfl (Ex_post (x12_holdsOf M hn6 hK hc) ?_)
      rintro _ _ ⟨rfl, e0⟩
      obtain rfl := Eq.symm e0
      refine Ex_inv 2 dX12_goMinute_35 rfl rfl (Or.inl rfl) rfl rfl rfl rfl (ma0 M) rfl rfl rfl (Ex_post (x12_gains (c := (c : Int)) M hn hn6 hg hB (by omega) (by omega)) ?_)
      rintro _ h1_ ⟨rfl, M1_, f1_⟩
      refine Ex_goto (t := 101) dX12_goMinute_38 rfl ?_
      refine Ex_aload_n dX12_goMinute_101 rfl rfl ?_
      refine Ex_iload_n dX12_goMinute_102 rfl rfl ?_
      refine Ex_inv 2 dX12_goMinute_103 rfl rfl (Or.inl rfl) rfl rfl rfl rfl (ma0 M1_) rfl rfl rfl (Ex_post (x12_colder (T := mnT n c 0 K F T S) (S := mnS c 0 K F T S) (C := C) (by rw [eT, eS]; exact M1_) hn hn6 hm hK hB hc) ?_)
      rintro _ h2_ ⟨rfl, M2_, f2_⟩
      refine Ex_aload_n dX12_goMinute_106 rfl rfl ?_
      refine Ex_dup dX12_goMinute_107 rfl rfl ?_
      refine Ex_getf dX12_goMinute_108 rfl (ma0 M2_) rfl rfl rfl ?_
      refine Ex_iconst dX12_goMinute_111 rfl ?_
      refine Ex_iadd dX12_goMinute_112 rfl ?_
      refine Ex_put12 (k0 := 6) (v := (g 6 + 1)) dX12_goMinute_113 rfl (ma0 M2_) rfl rfl rfl rfl rfl (by omega) rfl ?_
      refine mg0 M2_ ?_
      intro h3_ M3_ f3_
      refine Ex_vret dX12_goMinute_116 rfl ?_
      exact ⟨rfl, M3_, (f1_.trans (f2_.trans f3_))⟩
  · have eT : mnT n c 1 K F T S = gT n (c : Int) (sp_holds (K c) (F c) / 2 + 1) T := by
      rw [gT_at hc]; unfold mnT; rw [if_neg (by decide), if_neg (by decide), sp_mt_1]
      congr 1
      unfold sp_cl; omega
    have hgA : Rng n (gT n (c : Int) (sp_holds (K c) (F c) / 2 + 1) T) S C := gT_r hg
    have eA : gT n (c : Int) (sp_holds (K c) (F c) / 2 + 1) T c = min 20 (T c + sp_holds (K c) (F c) / 2 + 1) := by
      rw [gT_at hc, fu_at]; unfold sp_cl; omega
    by_cases q : sp_needs (K c) (F c) (S c) + 3 ≤ min 20 (T c + sp_holds (K c) (F c) / 2 + 1)
    · have eS : mnS c 1 K F T S = fu S c (S c + 1) := by unfold mnS; rw [if_neg (by decide), sp_ms_1, if_pos q]
      refine Ex_iload_n dX12_goMinute_0 rfl rfl ?_
      skip
      · refine Ex_tabIn (off := 40) (t := 41) (1) dX12_goMinute_1 rfl (by omega) (by omega) rfl rfl ?_
        refine Ex_aload_n dX12_goMinute_41 rfl rfl ?_
        refine Ex_iload_n dX12_goMinute_42 rfl rfl ?_
        refine Ex_aload_n dX12_goMinute_43 rfl rfl ?_
        refine Ex_iload_n dX12_goMinute_44 rfl rfl ?_
        refine Ex_inv 2 dX12_goMinute_45 rfl rfl (Or.inl rfl) rfl rfl rfl rfl (ma0 M) rfl rfl rfl (Ex_post (x12_holdsOf M hn6 hK hc) ?_)
        rintro _ _ ⟨rfl, e0⟩
        obtain rfl := Eq.symm e0
        refine Ex_iconst dX12_goMinute_48 rfl ?_
        refine Ex_idiv dX12_goMinute_49 rfl (by omega) (by omega) ?_
        refine Ex_iconst dX12_goMinute_50 rfl ?_
        refine Ex_iadd dX12_goMinute_51 rfl ?_
        refine Ex_inv 2 dX12_goMinute_52 rfl rfl (Or.inl rfl) rfl rfl rfl rfl (ma0 M) rfl rfl rfl (Ex_post (x12_gains (c := (c : Int)) M hn hn6 hg hB (by omega) (by omega)) ?_)
        rintro _ h1_ ⟨rfl, M1_, f1_⟩
        refine Ex_aload_n dX12_goMinute_55 rfl rfl ?_
        refine Ex_getf dX12_goMinute_56 rfl (ma0 M1_) rfl rfl rfl ?_
        refine Ex_iload_n dX12_goMinute_59 rfl rfl ?_
        refine Ex_dup2 dX12_goMinute_60 rfl rfl rfl ?_
        refine Ex_iald12 dX12_goMinute_61 rfl (ma4 M1_) rfl (by omega) ?_
        refine Ex_aload_n dX12_goMinute_62 rfl rfl ?_
        refine Ex_getf dX12_goMinute_63 rfl (ma0 M1_) rfl rfl rfl ?_
        refine Ex_iload_n dX12_goMinute_66 rfl rfl ?_
        refine Ex_iald12 dX12_goMinute_67 rfl (ma3 M1_) rfl (by omega) ?_
        rw [eA]
        refine Ex_aload_n dX12_goMinute_68 rfl rfl ?_
        refine Ex_iload_n dX12_goMinute_69 rfl rfl ?_
        refine Ex_inv 2 dX12_goMinute_70 rfl rfl (Or.inl rfl) rfl rfl rfl rfl (ma0 M1_) rfl rfl rfl (Ex_post (x12_needsOf M1_ hn6 hgA hK hc) ?_)
        rintro _ _ ⟨rfl, e0⟩
        obtain rfl := Eq.symm e0
        refine Ex_iconst dX12_goMinute_73 rfl ?_
        refine Ex_iadd dX12_goMinute_74 rfl ?_
        refine Ex_icmp_lt (t := 82) dX12_goMinute_75 rfl rfl (by omega) (fun c75 => absurd c75 (by omega)) (fun c75 => ?_)
        refine Ex_iconst dX12_goMinute_78 rfl ?_
        refine Ex_goto (t := 83) dX12_goMinute_79 rfl ?_
        refine Ex_iadd dX12_goMinute_83 rfl ?_
        refine Ex_iast12 dX12_goMinute_84 rfl (ma4 M1_) rfl (by omega) (by omega) ?_
        refine mg4 M1_ ?_
        intro h2_ M2_ f2_
        refine Ex_goto (t := 101) dX12_goMinute_85 rfl ?_
        refine Ex_aload_n dX12_goMinute_101 rfl rfl ?_
        refine Ex_iload_n dX12_goMinute_102 rfl rfl ?_
        refine Ex_inv 2 dX12_goMinute_103 rfl rfl (Or.inl rfl) rfl rfl rfl rfl (ma0 M2_) rfl rfl rfl (Ex_post (x12_colder (T := mnT n c 1 K F T S) (S := mnS c 1 K F T S) (C := C) (by rw [eT, eS]; exact M2_) hn hn6 hm hK hB hc) ?_)
        rintro _ h3_ ⟨rfl, M3_, f3_⟩
        refine Ex_aload_n dX12_goMinute_106 rfl rfl ?_
        refine Ex_dup dX12_goMinute_107 rfl rfl ?_
        refine Ex_getf dX12_goMinute_108 rfl (ma0 M3_) rfl rfl rfl ?_
        refine Ex_iconst dX12_goMinute_111 rfl ?_
        refine Ex_iadd dX12_goMinute_112 rfl ?_
        refine Ex_put12 (k0 := 6) (v := (g 6 + 1)) dX12_goMinute_113 rfl (ma0 M3_) rfl rfl rfl rfl rfl (by omega) rfl ?_
        refine mg0 M3_ ?_
        intro h4_ M4_ f4_
        refine Ex_vret dX12_goMinute_116 rfl ?_
        exact ⟨rfl, M4_, (f1_.trans (f2_.trans (f3_.trans f4_)))⟩
    · have eS : mnS c 1 K F T S = fu S c (S c + 0) := by unfold mnS; rw [if_neg (by decide), sp_ms_1, if_neg q, Int.add_zero]
      refine Ex_iload_n dX12_goMinute_0 rfl rfl ?_
      skip
      · refine Ex_tabIn (off := 40) (t := 41) (1) dX12_goMinute_1 rfl (by omega) (by omega) rfl rfl ?_
        refine Ex_aload_n dX12_goMinute_41 rfl rfl ?_
        refine Ex_iload_n dX12_goMinute_42 rfl rfl ?_
        refine Ex_aload_n dX12_goMinute_43 rfl rfl ?_
        refine Ex_iload_n dX12_goMinute_44 rfl rfl ?_
        refine Ex_inv 2 dX12_goMinute_45 rfl rfl (Or.inl rfl) rfl rfl rfl rfl (ma0 M) rfl rfl rfl (Ex_post (x12_holdsOf M hn6 hK hc) ?_)
        rintro _ _ ⟨rfl, e0⟩
        obtain rfl := Eq.symm e0
        refine Ex_iconst dX12_goMinute_48 rfl ?_
        refine Ex_idiv dX12_goMinute_49 rfl (by omega) (by omega) ?_
        refine Ex_iconst dX12_goMinute_50 rfl ?_
        refine Ex_iadd dX12_goMinute_51 rfl ?_
        refine Ex_inv 2 dX12_goMinute_52 rfl rfl (Or.inl rfl) rfl rfl rfl rfl (ma0 M) rfl rfl rfl (Ex_post (x12_gains (c := (c : Int)) M hn hn6 hg hB (by omega) (by omega)) ?_)
        rintro _ h1_ ⟨rfl, M1_, f1_⟩
        refine Ex_aload_n dX12_goMinute_55 rfl rfl ?_
        refine Ex_getf dX12_goMinute_56 rfl (ma0 M1_) rfl rfl rfl ?_
        refine Ex_iload_n dX12_goMinute_59 rfl rfl ?_
        refine Ex_dup2 dX12_goMinute_60 rfl rfl rfl ?_
        refine Ex_iald12 dX12_goMinute_61 rfl (ma4 M1_) rfl (by omega) ?_
        refine Ex_aload_n dX12_goMinute_62 rfl rfl ?_
        refine Ex_getf dX12_goMinute_63 rfl (ma0 M1_) rfl rfl rfl ?_
        refine Ex_iload_n dX12_goMinute_66 rfl rfl ?_
        refine Ex_iald12 dX12_goMinute_67 rfl (ma3 M1_) rfl (by omega) ?_
        rw [eA]
        refine Ex_aload_n dX12_goMinute_68 rfl rfl ?_
        refine Ex_iload_n dX12_goMinute_69 rfl rfl ?_
        refine Ex_inv 2 dX12_goMinute_70 rfl rfl (Or.inl rfl) rfl rfl rfl rfl (ma0 M1_) rfl rfl rfl (Ex_post (x12_needsOf M1_ hn6 hgA hK hc) ?_)
        rintro _ _ ⟨rfl, e0⟩
        obtain rfl := Eq.symm e0
        refine Ex_iconst dX12_goMinute_73 rfl ?_
        refine Ex_iadd dX12_goMinute_74 rfl ?_
        refine Ex_icmp_lt (t := 82) dX12_goMinute_75 rfl rfl (by omega) (fun c75 => ?_) (fun c75 => absurd c75 (by omega))
        refine Ex_iconst dX12_goMinute_82 rfl ?_
        refine Ex_iadd dX12_goMinute_83 rfl ?_
        refine Ex_iast12 dX12_goMinute_84 rfl (ma4 M1_) rfl (by omega) (by omega) ?_
        refine mg4 M1_ ?_
        intro h2_ M2_ f2_
        refine Ex_goto (t := 101) dX12_goMinute_85 rfl ?_
        refine Ex_aload_n dX12_goMinute_101 rfl rfl ?_
        refine Ex_iload_n dX12_goMinute_102 rfl rfl ?_
        refine Ex_inv 2 dX12_goMinute_103 rfl rfl (Or.inl rfl) rfl rfl rfl rfl (ma0 M2_) rfl rfl rfl (Ex_post (x12_colder (T := mnT n c 1 K F T S) (S := mnS c 1 K F T S) (C := C) (by rw [eT, eS]; exact M2_) hn hn6 hm hK hB hc) ?_)
        rintro _ h3_ ⟨rfl, M3_, f3_⟩
        refine Ex_aload_n dX12_goMinute_106 rfl rfl ?_
        refine Ex_dup dX12_goMinute_107 rfl rfl ?_
        refine Ex_getf dX12_goMinute_108 rfl (ma0 M3_) rfl rfl rfl ?_
        refine Ex_iconst dX12_goMinute_111 rfl ?_
        refine Ex_iadd dX12_goMinute_112 rfl ?_
        refine Ex_put12 (k0 := 6) (v := (g 6 + 1)) dX12_goMinute_113 rfl (ma0 M3_) rfl rfl rfl rfl rfl (by omega) rfl ?_
        refine mg0 M3_ ?_
        intro h4_ M4_ f4_
        refine Ex_vret dX12_goMinute_116 rfl ?_
        exact ⟨rfl, M4_, (f1_.trans (f2_.trans (f3_.trans f4_)))⟩
  · refine Ex_iload_n dX12_goMinute_0 rfl rfl ?_
    skip
    · refine Ex_tabIn (off := 87) (t := 88) (2) dX12_goMinute_1 rfl (by omega) (by omega) rfl rfl ?_
      refine Ex_aload_n dX12_goMinute_88 rfl rfl ?_
      refine Ex_iload_n dX12_goMinute_89 rfl rfl ?_
      refine Ex_inv 2 dX12_goMinute_90 rfl rfl (Or.inl rfl) rfl rfl rfl rfl (ma0 M) rfl rfl rfl (Ex_post (x12_letGo M hn hn6 hg hK hB hc hs) ?_)
      rintro _ h1_ ⟨rfl, M1_, f1_⟩
      refine Ex_goto (t := 101) dX12_goMinute_93 rfl ?_
      refine Ex_aload_n dX12_goMinute_101 rfl rfl ?_
      refine Ex_iload_n dX12_goMinute_102 rfl rfl ?_
      refine Ex_inv 2 dX12_goMinute_103 rfl rfl (Or.inl rfl) rfl rfl rfl rfl (ma0 M1_) rfl rfl rfl (Ex_post (x12_colder M1_ hn hn6 hm hK hB hc) ?_)
      rintro _ h2_ ⟨rfl, M2_, f2_⟩
      refine Ex_aload_n dX12_goMinute_106 rfl rfl ?_
      refine Ex_dup dX12_goMinute_107 rfl rfl ?_
      refine Ex_getf dX12_goMinute_108 rfl (ma0 M2_) rfl rfl rfl ?_
      refine Ex_iconst dX12_goMinute_111 rfl ?_
      refine Ex_iadd dX12_goMinute_112 rfl ?_
      refine Ex_put12 (k0 := 6) (v := (g 6 + 1)) dX12_goMinute_113 rfl (ma0 M2_) rfl rfl rfl rfl rfl (by omega) rfl ?_
      refine mg0 M2_ ?_
      intro h3_ M3_ f3_
      refine Ex_vret dX12_goMinute_116 rfl ?_
      exact ⟨rfl, M3_, (f1_.trans (f2_.trans f3_))⟩
  · have eT : mnT n c 3 K F T S = fu T c (sp_cl (T c + shg S c n)) := by unfold mnT; rw [if_pos rfl]
    have eS : mnS c 3 K F T S = S := by unfold mnS; rw [if_pos rfl]
    refine Ex_iload_n dX12_goMinute_0 rfl rfl ?_
    skip
    · refine Ex_tabOut (t := 96) dX12_goMinute_1 rfl (by omega) (by omega) ?_
      refine Ex_aload_n dX12_goMinute_96 rfl rfl ?_
      refine Ex_iload_n dX12_goMinute_97 rfl rfl ?_
      refine Ex_inv 2 dX12_goMinute_98 rfl rfl (Or.inl rfl) rfl rfl rfl rfl (ma0 M) rfl rfl rfl (Ex_post (x12_show M hn hn6 hg hB hc) ?_)
      rintro _ h1_ ⟨rfl, M1_, f1_⟩
      refine Ex_aload_n dX12_goMinute_101 rfl rfl ?_
      refine Ex_iload_n dX12_goMinute_102 rfl rfl ?_
      refine Ex_inv 2 dX12_goMinute_103 rfl rfl (Or.inl rfl) rfl rfl rfl rfl (ma0 M1_) rfl rfl rfl (Ex_post (x12_colder (T := mnT n c 3 K F T S) (S := mnS c 3 K F T S) (C := C) (by rw [eT, eS]; exact M1_) hn hn6 hm hK hB hc) ?_)
      rintro _ h2_ ⟨rfl, M2_, f2_⟩
      refine Ex_aload_n dX12_goMinute_106 rfl rfl ?_
      refine Ex_dup dX12_goMinute_107 rfl rfl ?_
      refine Ex_getf dX12_goMinute_108 rfl (ma0 M2_) rfl rfl rfl ?_
      refine Ex_iconst dX12_goMinute_111 rfl ?_
      refine Ex_iadd dX12_goMinute_112 rfl ?_
      refine Ex_put12 (k0 := 6) (v := (g 6 + 1)) dX12_goMinute_113 rfl (ma0 M2_) rfl rfl rfl rfl rfl (by omega) rfl ?_
      refine mg0 M2_ ?_
      intro h3_ M3_ f3_
      refine Ex_vret dX12_goMinute_116 rfl ?_
      exact ⟨rfl, M3_, (f1_.trans (f2_.trans f3_))⟩
theorem x12_goBreak_l {E : am_E} {d : Nat} {m n : Nat} {g K F T S C : Nat → Int} {ρ : Nat → Nat → Int} {kp : Value} {w : Int}  (hn : g 0 = (n : Int)) (hn6 : n ≤ 6) (hg : Rng n T S C) (hB : E.2 ≤ m) (hw : 0 ≤ w ∧ w ≤ 9)  : ∀ (k : Nat) (o : Nat) (h : Hp), o + k = n → MAt h m g K F (brT w o T) (brS w o S) (brC o C) ρ kp → Ex E (d + 1) mX12_goBreak 2 [.ref m, .int (i32 w), .int (i32 (o : Int))] [] h (fun r1 h1 => r1 = none ∧ MAt h1 m g K F (brT w n T) (brS w n S) (brC n C) ρ kp ∧ Fr h h1 m (m + 23)) := by
  intro k
  induction k with
  | zero =>
    intro o h hk M
    refine Ex_iload_n dX12_goBreak_2 rfl rfl ?_
    refine Ex_aload_n dX12_goBreak_3 rfl rfl ?_
    refine Ex_getf dX12_goBreak_4 rfl (ma0 M) rfl rfl rfl ?_
    refine Ex_icmp_ge (t := 79) dX12_goBreak_7 rfl rfl (by omega) (fun c7 => ?_) (fun c7 => absurd c7 (by omega))
    refine Ex_vret dX12_goBreak_79 rfl ?_
    obtain rfl : o = n := by omega
    exact ⟨rfl, M, Fr.rf _ _ _⟩
  | succ k ih =>
    intro o h hk M
    have hgo := hg o (by omega)
    have e1 : brT w o T o = T o := by unfold brT; rw [if_neg (by omega)]
    have e2 : brS w o S o = S o := by unfold brS; rw [if_neg (by omega)]
    have ef := br_sf (w := w) (c := o) (T := T) (S := S) (C := C)
    by_cases q : S o = 7
    · refine Ex_iload_n dX12_goBreak_2 rfl rfl ?_
      refine Ex_aload_n dX12_goBreak_3 rfl rfl ?_
      refine Ex_getf dX12_goBreak_4 rfl (ma0 M) rfl rfl rfl ?_
      refine Ex_icmp_ge (t := 79) dX12_goBreak_7 rfl rfl (by omega) (fun c7 => absurd c7 (by omega)) (fun c7 => ?_)
      refine Ex_aload_n dX12_goBreak_10 rfl rfl ?_
      refine Ex_getf dX12_goBreak_11 rfl (ma0 M) rfl rfl rfl ?_
      refine Ex_iload_n dX12_goBreak_14 rfl rfl ?_
      refine Ex_aload_n dX12_goBreak_15 rfl rfl ?_
      refine Ex_getf dX12_goBreak_16 rfl (ma0 M) rfl rfl rfl ?_
      refine Ex_iload_n dX12_goBreak_19 rfl rfl ?_
      refine Ex_iald12 dX12_goBreak_20 rfl (ma4 M) rfl (by omega) ?_
      rw [e2]
      refine Ex_bipush dX12_goBreak_21 rfl (by decide) ?_
      refine Ex_icmp_ne (t := 31) dX12_goBreak_23 rfl rfl (by omega) (fun c23 => absurd c23 (by omega)) (fun c23 => ?_)
      refine Ex_bipush dX12_goBreak_26 rfl (by decide) ?_
      refine Ex_goto (t := 46) dX12_goBreak_28 rfl ?_
      refine Ex_iast12 dX12_goBreak_46 rfl (ma4 M) rfl (by omega) (by omega) ?_
      refine mg4 M ?_
      intro h1_ M1_ f1_
      refine Ex_aload_n dX12_goBreak_47 rfl rfl ?_
      refine Ex_getf dX12_goBreak_48 rfl (ma0 M1_) rfl rfl rfl ?_
      refine Ex_iload_n dX12_goBreak_51 rfl rfl ?_
      refine Ex_aload_n dX12_goBreak_52 rfl rfl ?_
      refine Ex_getf dX12_goBreak_53 rfl (ma0 M1_) rfl rfl rfl ?_
      refine Ex_iload_n dX12_goBreak_56 rfl rfl ?_
      refine Ex_iald12 dX12_goBreak_57 rfl (ma3 M1_) rfl (by omega) ?_
      rw [e1]
      refine Ex_iload_n dX12_goBreak_58 rfl rfl ?_
      refine Ex_isub dX12_goBreak_59 rfl ?_
      refine Ex_bipush dX12_goBreak_60 rfl (by decide) ?_
      refine Ex_stat 0 dX12_goBreak_62 rfl rfl (Or.inl rfl) rfl rfl rfl rfl rfl rfl (Ex_post (x12_held (by omega) (by omega)) ?_)
      rintro _ _ ⟨rfl, e0⟩
      obtain rfl := Eq.symm e0
      refine Ex_iast12 dX12_goBreak_65 rfl (ma3 M1_) rfl (by omega) (by omega) ?_
      refine mg3 M1_ ?_
      intro h2_ M2_ f2_
      refine Ex_aload_n dX12_goBreak_66 rfl rfl ?_
      refine Ex_getf dX12_goBreak_67 rfl (ma0 M2_) rfl rfl rfl ?_
      refine Ex_iload_n dX12_goBreak_70 rfl rfl ?_
      refine Ex_iconst dX12_goBreak_71 rfl ?_
      refine Ex_iast12 dX12_goBreak_72 rfl (ma5 M2_) rfl (by omega) (by omega) ?_
      refine mg5 M2_ ?_
      intro h3_ M3_ f3_
      refine Ex_iinc (L2 := [_, _, _]) dX12_goBreak_73 rfl rfl rfl ?_
      refine Ex_goto (t := 2) dX12_goBreak_76 rfl ?_
      rw [if_pos q] at ef
      rw [hl_cl, ef.1, ef.2.1, ef.2.2] at M3_
      refine Ex_post (ih (o + 1) h3_ (by omega) M3_) ?_
      rintro r1 h1 ⟨rfl, y1, y2⟩
      exact ⟨rfl, y1, (f1_.trans (f2_.trans f3_)).trans y2⟩
    · refine Ex_iload_n dX12_goBreak_2 rfl rfl ?_
      refine Ex_aload_n dX12_goBreak_3 rfl rfl ?_
      refine Ex_getf dX12_goBreak_4 rfl (ma0 M) rfl rfl rfl ?_
      refine Ex_icmp_ge (t := 79) dX12_goBreak_7 rfl rfl (by omega) (fun c7 => absurd c7 (by omega)) (fun c7 => ?_)
      refine Ex_aload_n dX12_goBreak_10 rfl rfl ?_
      refine Ex_getf dX12_goBreak_11 rfl (ma0 M) rfl rfl rfl ?_
      refine Ex_iload_n dX12_goBreak_14 rfl rfl ?_
      refine Ex_aload_n dX12_goBreak_15 rfl rfl ?_
      refine Ex_getf dX12_goBreak_16 rfl (ma0 M) rfl rfl rfl ?_
      refine Ex_iload_n dX12_goBreak_19 rfl rfl ?_
      refine Ex_iald12 dX12_goBreak_20 rfl (ma4 M) rfl (by omega) ?_
      rw [e2]
      refine Ex_bipush dX12_goBreak_21 rfl (by decide) ?_
      refine Ex_icmp_ne (t := 31) dX12_goBreak_23 rfl rfl (by omega) (fun c23 => ?_) (fun c23 => absurd c23 (by omega))
      refine Ex_aload_n dX12_goBreak_31 rfl rfl ?_
      refine Ex_getf dX12_goBreak_32 rfl (ma0 M) rfl rfl rfl ?_
      refine Ex_iload_n dX12_goBreak_35 rfl rfl ?_
      refine Ex_iald12 dX12_goBreak_36 rfl (ma4 M) rfl (by omega) ?_
      rw [e2]
      refine Ex_iload_n dX12_goBreak_37 rfl rfl ?_
      refine Ex_iconst dX12_goBreak_38 rfl ?_
      refine Ex_idiv dX12_goBreak_39 rfl (by omega) (by omega) ?_
      refine Ex_isub dX12_goBreak_40 rfl ?_
      refine Ex_bipush dX12_goBreak_41 rfl (by decide) ?_
      refine Ex_stat 0 dX12_goBreak_43 rfl rfl (Or.inl rfl) rfl rfl rfl rfl rfl rfl (Ex_post (x12_held (by omega) (by omega)) ?_)
      rintro _ _ ⟨rfl, e0⟩
      obtain rfl := Eq.symm e0
      refine Ex_iast12 dX12_goBreak_46 rfl (ma4 M) rfl (by omega) (by omega) ?_
      refine mg4 M ?_
      intro h1_ M1_ f1_
      refine Ex_aload_n dX12_goBreak_47 rfl rfl ?_
      refine Ex_getf dX12_goBreak_48 rfl (ma0 M1_) rfl rfl rfl ?_
      refine Ex_iload_n dX12_goBreak_51 rfl rfl ?_
      refine Ex_aload_n dX12_goBreak_52 rfl rfl ?_
      refine Ex_getf dX12_goBreak_53 rfl (ma0 M1_) rfl rfl rfl ?_
      refine Ex_iload_n dX12_goBreak_56 rfl rfl ?_
      refine Ex_iald12 dX12_goBreak_57 rfl (ma3 M1_) rfl (by omega) ?_
      rw [e1]
      refine Ex_iload_n dX12_goBreak_58 rfl rfl ?_
      refine Ex_isub dX12_goBreak_59 rfl ?_
      refine Ex_bipush dX12_goBreak_60 rfl (by decide) ?_
      refine Ex_stat 0 dX12_goBreak_62 rfl rfl (Or.inl rfl) rfl rfl rfl rfl rfl rfl (Ex_post (x12_held (by omega) (by omega)) ?_)
      rintro _ _ ⟨rfl, e0⟩
      obtain rfl := Eq.symm e0
      refine Ex_iast12 dX12_goBreak_65 rfl (ma3 M1_) rfl (by omega) (by omega) ?_
      refine mg3 M1_ ?_
      intro h2_ M2_ f2_
      refine Ex_aload_n dX12_goBreak_66 rfl rfl ?_
      refine Ex_getf dX12_goBreak_67 rfl (ma0 M2_) rfl rfl rfl ?_
      refine Ex_iload_n dX12_goBreak_70 rfl rfl ?_
      refine Ex_iconst dX12_goBreak_71 rfl ?_
      refine Ex_iast12 dX12_goBreak_72 rfl (ma5 M2_) rfl (by omega) (by omega) ?_
      refine mg5 M2_ ?_
      intro h3_ M3_ f3_
      refine Ex_iinc (L2 := [_, _, _]) dX12_goBreak_73 rfl rfl rfl ?_
      refine Ex_goto (t := 2) dX12_goBreak_76 rfl ?_
      rw [if_neg q] at ef
      have e7 : hl (S o - w / 3) 7 = max 0 (S o - w / 3) := by
        unfold hl
        split
        · omega
        · split <;> omega
      rw [e7, hl_cl, ef.1, ef.2.1, ef.2.2] at M3_
      refine Ex_post (ih (o + 1) h3_ (by omega) M3_) ?_
      rintro r1 h1 ⟨rfl, y1, y2⟩
      exact ⟨rfl, y1, (f1_.trans (f2_.trans f3_)).trans y2⟩
theorem x12_goBreak {E : am_E} {d : Nat} {h : Hp} {m n : Nat} {g K F T S C : Nat → Int} {ρ : Nat → Nat → Int} {kp : Value} {w : Int}  (M : MAt h m g K F T S C ρ kp) (hn : g 0 = (n : Int)) (hn6 : n ≤ 6) (hg : Rng n T S C) (hB : E.2 ≤ m) (hw : 0 ≤ w ∧ w ≤ 9)  : Ex E (d + 1) mX12_goBreak 0 [.ref m, .int (i32 w), .retAddr 0] [] h (fun r1 h1 => r1 = none ∧ MAt h1 m g K F (brT w n T) (brS w n S) (brC n C) ρ kp ∧ Fr h h1 m (m + 23)) := by
  refine Ex_iconst dX12_goBreak_0 rfl ?_
  refine Ex_istore_n (L2 := [_, _, _]) dX12_goBreak_1 rfl rfl rfl ?_
  exact x12_goBreak_l hn hn6 hg hB hw n 0 h (by omega) (by rw [brT_0f, brS_0f, brC_0f]; exact M)
theorem x12_allSteps_l {E : am_E} {d : Nat} {h : Hp} {m n : Nat} {g K F T S C : Nat → Int} {ρ : Nat → Nat → Int} {kp : Value}  (M : MAt h m g K F T S C ρ kp) (hn : g 0 = (n : Int)) (hn6 : n ≤ 6) (hg : Rng n T S C)  : ∀ (k : Nat) (c : Nat) (a : Int), c + k = n → 0 ≤ a ∧ a ≤ 20 * c → Ex E d mX12_allSteps 4 [.ref m, .int (i32 a), .int (i32 (c : Int))] [] h (fun r1 h1 => r1 = some (.int (i32 (a + sm S c k))) ∧ h1 = h) := by
  intro k
  induction k with
  | zero =>
    intro c a hk ha
    refine Ex_iload_n dX12_allSteps_4 rfl rfl ?_
    refine Ex_aload_n dX12_allSteps_5 rfl rfl ?_
    refine Ex_getf dX12_allSteps_6 rfl (ma0 M) rfl rfl rfl ?_
    refine Ex_icmp_ge (t := 27) dX12_allSteps_9 rfl rfl (by omega) (fun c9 => ?_) (fun c9 => absurd c9 (by omega))
    refine Ex_iload_n dX12_allSteps_27 rfl rfl ?_
    refine Ex_iret dX12_allSteps_28 rfl rfl ?_
    exact ⟨ri (by unfold sm; omega), rfl⟩
  | succ k ih =>
    intro c a hk ha
    have hgc := hg c (by omega)
    refine Ex_iload_n dX12_allSteps_4 rfl rfl ?_
    refine Ex_aload_n dX12_allSteps_5 rfl rfl ?_
    refine Ex_getf dX12_allSteps_6 rfl (ma0 M) rfl rfl rfl ?_
    refine Ex_icmp_ge (t := 27) dX12_allSteps_9 rfl rfl (by omega) (fun c9 => absurd c9 (by omega)) (fun c9 => ?_)
    refine Ex_iload_n dX12_allSteps_12 rfl rfl ?_
    refine Ex_aload_n dX12_allSteps_13 rfl rfl ?_
    refine Ex_getf dX12_allSteps_14 rfl (ma0 M) rfl rfl rfl ?_
    refine Ex_iload_n dX12_allSteps_17 rfl rfl ?_
    refine Ex_iald12 dX12_allSteps_18 rfl (ma4 M) rfl (by omega) ?_
    refine Ex_iadd dX12_allSteps_19 rfl ?_
    refine Ex_istore_n (L2 := [_, _, _]) dX12_allSteps_20 rfl rfl rfl ?_
    refine Ex_iinc (L2 := [_, _, _]) dX12_allSteps_21 rfl rfl rfl ?_
    refine Ex_goto (t := 4) dX12_allSteps_24 rfl ?_
    refine Ex_post (ih (c + 1) _ (by omega) ⟨by omega, by omega⟩) ?_
    rintro _ _ ⟨rfl, rfl⟩
    exact ⟨ri (by rw [show sm S c (k + 1) = S c + sm S (c + 1) k from rfl]; omega), rfl⟩
theorem x12_allSteps {E : am_E} {d : Nat} {h : Hp} {m n : Nat} {g K F T S C : Nat → Int} {ρ : Nat → Nat → Int} {kp : Value}  (M : MAt h m g K F T S C ρ kp) (hn : g 0 = (n : Int)) (hn6 : n ≤ 6) (hg : Rng n T S C)  : Ex E d mX12_allSteps 0 [.ref m, .retAddr 0, .retAddr 0] [] h (fun r1 h1 => r1 = some (.int (i32 (sm S 0 n))) ∧ h1 = h) := by
  refine Ex_iconst dX12_allSteps_0 rfl ?_
  refine Ex_istore_n (L2 := [_, _, _]) dX12_allSteps_1 rfl rfl rfl ?_
  refine Ex_iconst dX12_allSteps_2 rfl ?_
  refine Ex_istore_n (L2 := [_, _, _]) dX12_allSteps_3 rfl rfl rfl ?_
  refine Ex_post (x12_allSteps_l M hn hn6 hg n 0 0 (by omega) (by omega)) ?_
  rintro _ _ ⟨rfl, rfl⟩
  exact ⟨ri (by omega), rfl⟩
theorem x12_swimBits_l {E : am_E} {d : Nat} {h : Hp} {m n : Nat} {g K F T S C : Nat → Int} {ρ : Nat → Nat → Int} {kp : Value}  (M : MAt h m g K F T S C ρ kp) (hn : g 0 = (n : Int)) (hn6 : n ≤ 6) (hg : Rng n T S C) (hK : ∀ i, i < n → (0 ≤ K i ∧ K i ≤ 7) ∧ (0 ≤ F i ∧ F i ≤ 9))  : ∀ (k : Nat) (c : Nat) (a : Int), c + k = n → 0 ≤ a ∧ a < (2 : Int) ^ c → Ex E d mX12_swimBits 4 [.ref m, .int (i32 a), .int (i32 (c : Int))] [] h (fun r1 h1 => r1 = some (.int (i32 (a + bt (swB S) c k))) ∧ h1 = h) := by
  intro k
  induction k with
  | zero =>
    intro c a hk ha
    refine Ex_iload_n dX12_swimBits_4 rfl rfl ?_
    refine Ex_aload_n dX12_swimBits_5 rfl rfl ?_
    refine Ex_getf dX12_swimBits_6 rfl (ma0 M) rfl rfl rfl ?_
    refine Ex_icmp_ge (t := 39) dX12_swimBits_9 rfl rfl (by omega) (fun c9 => ?_) (fun c9 => absurd c9 (by omega))
    refine Ex_iload_n dX12_swimBits_39 rfl rfl ?_
    refine Ex_iret dX12_swimBits_40 rfl rfl ?_
    exact ⟨ri (by unfold bt; omega), rfl⟩
  | succ k ih =>
    intro c a hk ha
    have hp2 := pow2_s c
    have hp3 := pow2_pos c
    have hgc := hg c (by omega)
    have hKc := hK c (by omega)
    by_cases hq : S c = 7
    · have hb : (swB S) c = true := decide_eq_true hq
      refine Ex_iload_n dX12_swimBits_4 rfl rfl ?_
      refine Ex_aload_n dX12_swimBits_5 rfl rfl ?_
      refine Ex_getf dX12_swimBits_6 rfl (ma0 M) rfl rfl rfl ?_
      refine Ex_icmp_ge (t := 39) dX12_swimBits_9 rfl rfl (by omega) (fun c9 => absurd c9 (by omega)) (fun c9 => ?_)
      refine Ex_iload_n dX12_swimBits_12 rfl rfl ?_
      refine Ex_aload_n dX12_swimBits_13 rfl rfl ?_
      refine Ex_getf dX12_swimBits_14 rfl (ma0 M) rfl rfl rfl ?_
      refine Ex_iload_n dX12_swimBits_17 rfl rfl ?_
      refine Ex_iald12 dX12_swimBits_18 rfl (ma4 M) rfl (by omega) ?_
      refine Ex_bipush dX12_swimBits_19 rfl (by decide) ?_
      refine Ex_icmp_ne (t := 30) dX12_swimBits_21 rfl rfl (by omega) (fun c21 => absurd c21 (by omega)) (fun c21 => ?_)
      refine Ex_iconst dX12_swimBits_24 rfl ?_
      refine Ex_iload_n dX12_swimBits_25 rfl rfl ?_
      refine Ex_ishl (v := ((2 : Int) ^ c)) dX12_swimBits_26 rfl (shl_bit c (by omega)) ?_
      refine Ex_goto (t := 31) dX12_swimBits_27 rfl ?_
      refine Ex_ior (v := (a + (2 : Int) ^ c)) dX12_swimBits_31 rfl (or_bitI (by omega) ha) ?_
      refine Ex_istore_n (L2 := [_, _, _]) dX12_swimBits_32 rfl rfl rfl ?_
      refine Ex_iinc (L2 := [_, _, _]) dX12_swimBits_33 rfl rfl rfl ?_
      refine Ex_goto (t := 4) dX12_swimBits_36 rfl ?_
      refine Ex_post (ih (c + 1) _ (by omega) ⟨by omega, by omega⟩) ?_
      rintro _ _ ⟨rfl, rfl⟩
      exact ⟨ri (by rw [show bt (swB S) c (k + 1) = (if (swB S) c then 2 ^ c else 0) + bt (swB S) (c + 1) k from rfl, hb]; rw [if_pos rfl]; omega), rfl⟩
    · have hb : (swB S) c = false := decide_eq_false hq
      refine Ex_iload_n dX12_swimBits_4 rfl rfl ?_
      refine Ex_aload_n dX12_swimBits_5 rfl rfl ?_
      refine Ex_getf dX12_swimBits_6 rfl (ma0 M) rfl rfl rfl ?_
      refine Ex_icmp_ge (t := 39) dX12_swimBits_9 rfl rfl (by omega) (fun c9 => absurd c9 (by omega)) (fun c9 => ?_)
      refine Ex_iload_n dX12_swimBits_12 rfl rfl ?_
      refine Ex_aload_n dX12_swimBits_13 rfl rfl ?_
      refine Ex_getf dX12_swimBits_14 rfl (ma0 M) rfl rfl rfl ?_
      refine Ex_iload_n dX12_swimBits_17 rfl rfl ?_
      refine Ex_iald12 dX12_swimBits_18 rfl (ma4 M) rfl (by omega) ?_
      refine Ex_bipush dX12_swimBits_19 rfl (by decide) ?_
      refine Ex_icmp_ne (t := 30) dX12_swimBits_21 rfl rfl (by omega) (fun c21 => ?_) (fun c21 => absurd c21 (by omega))
      refine Ex_iconst dX12_swimBits_30 rfl ?_
      refine Ex_ior (v := a) dX12_swimBits_31 rfl (i32_or0 a) ?_
      refine Ex_istore_n (L2 := [_, _, _]) dX12_swimBits_32 rfl rfl rfl ?_
      refine Ex_iinc (L2 := [_, _, _]) dX12_swimBits_33 rfl rfl rfl ?_
      refine Ex_goto (t := 4) dX12_swimBits_36 rfl ?_
      refine Ex_post (ih (c + 1) _ (by omega) ⟨by omega, by omega⟩) ?_
      rintro _ _ ⟨rfl, rfl⟩
      exact ⟨ri (by rw [show bt (swB S) c (k + 1) = (if (swB S) c then 2 ^ c else 0) + bt (swB S) (c + 1) k from rfl, hb]; rw [if_neg (by decide)]; omega), rfl⟩
theorem x12_swimBits {E : am_E} {d : Nat} {h : Hp} {m n : Nat} {g K F T S C : Nat → Int} {ρ : Nat → Nat → Int} {kp : Value}  (M : MAt h m g K F T S C ρ kp) (hn : g 0 = (n : Int)) (hn6 : n ≤ 6) (hg : Rng n T S C) (hK : ∀ i, i < n → (0 ≤ K i ∧ K i ≤ 7) ∧ (0 ≤ F i ∧ F i ≤ 9))  : Ex E d mX12_swimBits 0 [.ref m, .retAddr 0, .retAddr 0] [] h (fun r1 h1 => r1 = some (.int (i32 (bt (swB S) 0 n))) ∧ h1 = h) := by
  refine Ex_iconst dX12_swimBits_0 rfl ?_
  refine Ex_istore_n (L2 := [_, _, _]) dX12_swimBits_1 rfl rfl rfl ?_
  refine Ex_iconst dX12_swimBits_2 rfl ?_
  refine Ex_istore_n (L2 := [_, _, _]) dX12_swimBits_3 rfl rfl rfl ?_
  refine Ex_post (x12_swimBits_l M hn hn6 hg hK n 0 0 (by omega) (by omega)) ?_
  rintro _ _ ⟨rfl, rfl⟩
  exact ⟨ri (by omega), rfl⟩
