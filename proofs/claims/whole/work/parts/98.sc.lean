/-! the reference: a STATEMENT comes (by program: wip/whole/spec_sc.py) -/
/-- what holds of every rail's numbers -/
def OKS (X : RS) : Prop := X.1 ≤ 6 ∧ Rng X.1 X.2.2.2.2.1 X.2.2.2.2.2.1 X.2.2.2.2.2.2 ∧ (∀ i, i < X.1 → (0 ≤ X.2.2.1 i ∧ X.2.2.1 i ≤ 7) ∧ (0 ≤ X.2.2.2.1 i ∧ X.2.2.2.1 i ≤ 9)) ∧ (0 ≤ X.2.1 ∧ X.2.1 ≤ 999)
theorem hK_sw {n a b : Nat} {K F : Nat → Int} (hK : ∀ i, i < n → (0 ≤ K i ∧ K i ≤ 7) ∧ (0 ≤ F i ∧ F i ≤ 9)) (ha : a < n) (hb : b < n) : ∀ i, i < n → (0 ≤ sw K a b i ∧ sw K a b i ≤ 7) ∧ (0 ≤ sw F a b i ∧ sw F a b i ≤ 9) := by
  intro i hi
  unfold sw
  by_cases e : i = b
  · rw [if_pos e, if_pos e]; exact hK a ha
  · rw [if_neg e, if_neg e]
    by_cases e2 : i = a
    · rw [if_pos e2, if_pos e2]; exact hK b hb
    · rw [if_neg e2, if_neg e2]; exact hK i hi
theorem ob_ok {z a b t2 t3 : Int} {X Y : RS} (hX : OKS X) (ha : 0 ≤ a ∧ a ≤ 9) (hb : z = 98 ∨ z = 116 ∨ (0 ≤ b ∧ b ≤ 9)) (ht2 : z = 116 → 0 ≤ t2) (ht3 : z = 99 → 0 ≤ t3) (h : ob z a b t2 t3 X = some Y) : OKS Y := by
  have hm2 := ob_m h hX.2.2.2
  obtain ⟨n, m, K, F, T, S, C⟩ := X
  obtain ⟨h6, hg, hK, hm⟩ := hX
  have h6 : n ≤ 6 := h6
  have hg : Rng n T S C := hg
  have hK : ∀ i, i < n → (0 ≤ K i ∧ K i ≤ 7) ∧ (0 ≤ F i ∧ F i ≤ 9) := hK
  unfold ob at h
  by_cases c99 : z = 99
  · rw [if_pos c99] at h
    split at h
    · rename_i q
      injection h with h
      have hb : 0 ≤ b ∧ b ≤ 9 := by rcases hb with e | e | e <;> first | omega | exact e
      have ht3 := ht3 c99
      have q1 : n < 6 := q.1
      subst h
      refine ⟨(show n + 1 ≤ 6 by omega), (show Rng (n + 1) (fu T n t3) (fu S n 0) (fu C n 0) from fun i hi => ?_), (show ∀ i, i < n + 1 → (0 ≤ fu K n a i ∧ fu K n a i ≤ 7) ∧ (0 ≤ fu F n b i ∧ fu F n b i ≤ 9) from fun i hi => ?_), hm2⟩
      · by_cases e : i = n
        · subst e; rw [fu_at, fu_at, fu_at]; omega
        · rw [fu_ne e, fu_ne e, fu_ne e]; exact hg i (by omega)
      · by_cases e : i = n
        · subst e; rw [fu_at, fu_at]; omega
        · rw [fu_ne e, fu_ne e]; exact hK i (by omega)
    · cases h
  rw [if_neg c99] at h
  by_cases c109 : z = 109
  · rw [if_pos c109] at h
    split at h
    · rename_i q
      injection h with h
      have q1 : 0 ≤ a ∧ a < (n : Int) := q.1.1
      have q2 : S a.toNat < 7 := q.1.2.1
      subst h
      exact ⟨h6, min_r hg (fun i hi => (hK i hi).2) (show a.toNat < n by omega) q2, hK, hm2⟩
    · cases h
  rw [if_neg c109] at h
  by_cases c98 : z = 98
  · rw [if_pos c98] at h
    injection h with h
    subst h
    exact ⟨h6, br_r hg ha.1, hK, hm2⟩
  rw [if_neg c98] at h
  by_cases c120 : z = 120
  · rw [if_pos c120] at h
    split at h
    · rename_i q
      injection h with h
      have q1 : 0 ≤ a ∧ a < (n : Int) := q.1
      have q2 : 0 ≤ b ∧ b < (n : Int) := q.2.1
      subst h
      have qa : a.toNat < n := by omega
      have qb : b.toNat < n := by omega
      exact ⟨h6, rng_sw hg qa qb, hK_sw hK qa qb, hm2⟩
    · cases h
  rw [if_neg c120] at h
  by_cases c116 : z = 116
  · rw [if_pos c116] at h
    split at h
    · rename_i q
      injection h with h
      have q1 : 0 ≤ a ∧ a < (n : Int) := q.1
      have ht2 := ht2 c116
      subst h
      refine ⟨h6, (show Rng n (fu T a.toNat t2) S C from fun i hi => ?_), hK, hm2⟩
      by_cases e : i = a.toNat
      · subst e; rw [fu_at]; exact ⟨⟨ht2, q.2⟩, (hg _ hi).2⟩
      · rw [fu_ne e]; exact hg i hi
    · cases h
  rw [if_neg c116] at h
  split at h
  · rename_i q
    injection h with h
    have q1 : 0 ≤ a ∧ a < (n : Int) := q.1
    have hb : 0 ≤ b ∧ b ≤ 9 := by rcases hb with e | e | e <;> first | omega | exact e
    subst h
    refine ⟨h6, (show Rng n T (fu S a.toNat b) C from fun i hi => ?_), hK, hm2⟩
    by_cases e : i = a.toNat
    · subst e; rw [fu_at]; exact ⟨(hg _ hi).1, ⟨hb.1, q.2⟩, (hg _ hi).2.2⟩
    · rw [fu_ne e]; exact hg i hi
  · cases h
/-- what a STATEMENT does to the reference's object -/
def Mbd (h h1 : Hp) (m : Nat) (g : Nat → Int) (ρ : Nat → Nat → Int) (kp : Value) (r1 : Option Value) : Option RS → Prop
  | none => r1 = some (.int (i32 0)) ∧ h1 = h
  | some Y => r1 = some (.int (i32 1)) ∧ (∃ g2, MAt h1 m g2 Y.2.2.1 Y.2.2.2.1 Y.2.2.2.2.1 Y.2.2.2.2.2.1 Y.2.2.2.2.2.2 ρ kp ∧ g2 0 = (Y.1 : Int) ∧ g2 6 = Y.2.1 ∧ ∀ j, j ≠ 0 → j ≠ 6 → g2 j = g j) ∧ Fr h h1 m (m + 23)
/-- one exit for a boolean -/
theorem Mbd_b {h h1 : Hp} {m : Nat} {g : Nat → Int} {ρ : Nat → Nat → Int} {kp : Value} {r1 : Option Value} {o : Option RS} (z : Mbd h h1 m g ρ kp r1 o) : ∃ b : Int, r1 = some (.int (i32 b)) ∧ (b = 0 ∨ b = 1) := by
  cases o with
  | none => exact ⟨0, z.1, Or.inl rfl⟩
  | some Y => exact ⟨1, z.1, Or.inr rfl⟩
theorem x12_comesTold {E : am_E} {d : Nat} {h : Hp} {m n k i : Nat} {mm : Int} {xs : List Int} {g K F T S C : Nat → Int} {ρ : Nat → Nat → Int} {kp : Value}  (M : MAt h m g K F T S C ρ kp) (hn : g 0 = (n : Int)) (h6 : g 6 = mm) (hO : OKS (n, mm, K, F, T, S, C)) (hB : E.2 ≤ m) (hk : k ≤ 50) (hT : Told ρ xs k i) (hdb : 1 ≤ dB (gx xs (i : Int))) (hd : ∀ j : Int, 1 ≤ j → j ≤ dB (gx xs (i : Int)) → 48 ≤ gx xs ((i : Int) + j) ∧ gx xs ((i : Int) + j) ≤ 57)  : Ex E (d + 6) mX12_comesTold 0 [.ref m, .int (i32 (k : Int)), .retAddr 0, .retAddr 0, .retAddr 0] [] h (fun r1 h1 => Mbd h h1 m g ρ kp r1 (obAt xs (i : Int) (n, mm, K, F, T, S, C))) := by
  obtain ⟨hn6, hg, hK, hm9⟩ := hO
  have hn6 : n ≤ 6 := hn6
  have hg : Rng n T S C := hg
  have hK : ∀ i, i < n → (0 ≤ K i ∧ K i ≤ 7) ∧ (0 ≤ F i ∧ F i ≤ 9) := hK
  have hm9 : 0 ≤ mm ∧ mm ≤ 999 := hm9
  have hm9 : 0 ≤ g 6 ∧ g 6 ≤ 999 := by omega
  obtain ⟨t1, t2, c1, c2, c3, c4⟩ := hT
  have hd1 := hd 1 (by omega) hdb
  unfold obAt
  rcases (show gx xs (i : Int) = 98 ∨ gx xs (i : Int) = 99 ∨ gx xs (i : Int) = 109 ∨ gx xs (i : Int) = 116 ∨ gx xs (i : Int) = 120 ∨ gx xs (i : Int) = 115 by unfold dB at hdb; omega) with e | e | e | e | e | e
  all_goals rw [e] at hd c2 c3 c4 hdb
  all_goals rw [e] at t2 ⊢
  all_goals
    obtain ⟨a, ea⟩ : ∃ a, a = gx xs ((i : Int) + 1) - 48 := ⟨_, rfl⟩
    rw [← ea] at c1 ⊢
    have ha9 : 0 ≤ a ∧ a ≤ 9 := by omega
  · generalize gx xs ((i : Int) + 2) - 48 = b
    have eo : ∀ u v w : Int, ob 98 a u v w (n, mm, K, F, T, S, C) = some (rsB a (n, mm, K, F, T, S, C)) := fun u v w => by unfold ob; rw [if_neg (by decide), if_neg (by decide), if_pos rfl]
    rw [eo]
    refine Ex_aload_n dX12_comesTold_0 rfl rfl ?_
    refine Ex_getf dX12_comesTold_1 rfl (ma0 M) rfl rfl rfl ?_
    refine Ex_iconst dX12_comesTold_4 rfl ?_
    refine Ex_iload_n dX12_comesTold_5 rfl rfl ?_
    refine Ex_imul dX12_comesTold_6 rfl ?_
    refine Ex_iald12 (c := (3 * k)) dX12_comesTold_7 rfl (ma14 M) (by omega) (by omega) ?_
    rw [c1]
    refine Ex_istore_n (L2 := [_, _, _, _, _]) dX12_comesTold_8 rfl rfl rfl ?_
    refine Ex_aload_n dX12_comesTold_9 rfl rfl ?_
    refine Ex_getf dX12_comesTold_10 rfl (ma0 M) rfl rfl rfl ?_
    refine Ex_iconst dX12_comesTold_13 rfl ?_
    refine Ex_iload_n dX12_comesTold_14 rfl rfl ?_
    refine Ex_imul dX12_comesTold_15 rfl ?_
    refine Ex_iconst dX12_comesTold_16 rfl ?_
    refine Ex_iadd dX12_comesTold_17 rfl ?_
    refine Ex_iald12 (c := (3 * k + 1)) dX12_comesTold_18 rfl (ma14 M) (by omega) (by omega) ?_
    skip
    refine Ex_istore_n (L2 := [_, _, _, _, _]) dX12_comesTold_19 rfl rfl rfl ?_
    refine Ex_iconst dX12_comesTold_20 rfl ?_
    refine Ex_istore (L2 := [_, _, _, _, _]) dX12_comesTold_21 rfl rfl rfl ?_
    refine Ex_aload_n dX12_comesTold_23 rfl rfl ?_
    refine Ex_getf dX12_comesTold_24 rfl (ma0 M) rfl rfl rfl ?_
    refine Ex_iload_n dX12_comesTold_27 rfl rfl ?_
    refine Ex_iald12 (c := k) dX12_comesTold_28 rfl (ma13 M) rfl (by omega) ?_
    rw [t2]
    skip
    · refine Ex_look (off := 75) (t := 104) dX12_comesTold_29 (by omega) rfl rfl rfl ?_
      refine Ex_aload_n dX12_comesTold_104 rfl rfl ?_
      refine Ex_iload_n dX12_comesTold_105 rfl rfl ?_
      refine Ex_inv 2 dX12_comesTold_106 rfl rfl (Or.inl rfl) rfl rfl rfl rfl (ma0 M) rfl rfl rfl (Ex_post (x12_goBreak M hn hn6 hg hB ha9) ?_)
      rintro _ h1_ ⟨rfl, M1_, f1_⟩
      refine Ex_iconst dX12_comesTold_109 rfl ?_
      refine Ex_iret dX12_comesTold_110 rfl rfl ?_
      exact ⟨rfl, ⟨_, M1_, hn, h6, fun _ _ _ => rfl⟩, f1_⟩
  · replace c2 := c2 (by decide) (by decide)
    replace c4 := c4 rfl
    have hd2 := hd 2 (by omega) (by decide)
    have hd3 := hd 3 (by omega) (by decide)
    have hd4 := hd 4 (by omega) (by decide)
    rw [show (i : Int) + 4 = (i : Int) + 3 + 1 by omega] at hd4
    obtain ⟨b, eb⟩ : ∃ b, b = gx xs ((i : Int) + 2) - 48 := ⟨_, rfl⟩
    obtain ⟨t, et⟩ : ∃ t, t = (gx xs ((i : Int) + 3) - 48) * 10 + gx xs ((i : Int) + 3 + 1) - 48 := ⟨_, rfl⟩
    rw [← eb] at c2 ⊢
    rw [← et] at c4 ⊢
    by_cases q : n < 6 ∧ a ≤ 7 ∧ t ≤ 20
    · have eo : ∀ u : Int, ob 99 a b u t (n, mm, K, F, T, S, C) = some (rsC a b t (n, mm, K, F, T, S, C)) := fun u => by unfold ob; rw [if_pos rfl]; exact if_pos q
      rw [eo]
      refine Ex_aload_n dX12_comesTold_0 rfl rfl ?_
      refine Ex_getf dX12_comesTold_1 rfl (ma0 M) rfl rfl rfl ?_
      refine Ex_iconst dX12_comesTold_4 rfl ?_
      refine Ex_iload_n dX12_comesTold_5 rfl rfl ?_
      refine Ex_imul dX12_comesTold_6 rfl ?_
      refine Ex_iald12 (c := (3 * k)) dX12_comesTold_7 rfl (ma14 M) (by omega) (by omega) ?_
      rw [c1]
      refine Ex_istore_n (L2 := [_, _, _, _, _]) dX12_comesTold_8 rfl rfl rfl ?_
      refine Ex_aload_n dX12_comesTold_9 rfl rfl ?_
      refine Ex_getf dX12_comesTold_10 rfl (ma0 M) rfl rfl rfl ?_
      refine Ex_iconst dX12_comesTold_13 rfl ?_
      refine Ex_iload_n dX12_comesTold_14 rfl rfl ?_
      refine Ex_imul dX12_comesTold_15 rfl ?_
      refine Ex_iconst dX12_comesTold_16 rfl ?_
      refine Ex_iadd dX12_comesTold_17 rfl ?_
      refine Ex_iald12 (c := (3 * k + 1)) dX12_comesTold_18 rfl (ma14 M) (by omega) (by omega) ?_
      rw [c2]
      refine Ex_istore_n (L2 := [_, _, _, _, _]) dX12_comesTold_19 rfl rfl rfl ?_
      refine Ex_iconst dX12_comesTold_20 rfl ?_
      refine Ex_istore (L2 := [_, _, _, _, _]) dX12_comesTold_21 rfl rfl rfl ?_
      refine Ex_aload_n dX12_comesTold_23 rfl rfl ?_
      refine Ex_getf dX12_comesTold_24 rfl (ma0 M) rfl rfl rfl ?_
      refine Ex_iload_n dX12_comesTold_27 rfl rfl ?_
      refine Ex_iald12 (c := k) dX12_comesTold_28 rfl (ma13 M) rfl (by omega) ?_
      rw [t2]
      skip
      · refine Ex_look (off := 51) (t := 80) dX12_comesTold_29 (by omega) rfl rfl rfl ?_
        refine Ex_aload_n dX12_comesTold_80 rfl rfl ?_
        refine Ex_iload_n dX12_comesTold_81 rfl rfl ?_
        refine Ex_iload_n dX12_comesTold_82 rfl rfl ?_
        refine Ex_aload_n dX12_comesTold_83 rfl rfl ?_
        refine Ex_getf dX12_comesTold_84 rfl (ma0 M) rfl rfl rfl ?_
        refine Ex_iconst dX12_comesTold_87 rfl ?_
        refine Ex_iload_n dX12_comesTold_88 rfl rfl ?_
        refine Ex_imul dX12_comesTold_89 rfl ?_
        refine Ex_iconst dX12_comesTold_90 rfl ?_
        refine Ex_iadd dX12_comesTold_91 rfl ?_
        refine Ex_iald12 (c := (3 * k + 2)) dX12_comesTold_92 rfl (ma14 M) (by omega) (by omega) ?_
        rw [c4]
        refine Ex_inv 2 dX12_comesTold_93 rfl rfl (Or.inl rfl) rfl rfl rfl rfl (ma0 M) rfl rfl rfl (Ex_post (x12_childComes1 M hn hB (by omega) (by omega)) ?_)
        rintro _ h1_ ⟨rfl, M1_, f1_⟩
        refine Ex_iret dX12_comesTold_96 rfl rfl ?_
        refine ⟨rfl, ⟨_, M1_, ?_, h6, fun j j1 _ => fu_ne j1⟩, f1_⟩
        show g 0 + 1 = ((n + 1 : Nat) : Int)
        omega
    · have eo : ∀ u : Int, ob 99 a b u t (n, mm, K, F, T, S, C) = none := fun u => by unfold ob; rw [if_pos rfl]; exact if_neg q
      rw [eo]
      refine Ex_aload_n dX12_comesTold_0 rfl rfl ?_
      refine Ex_getf dX12_comesTold_1 rfl (ma0 M) rfl rfl rfl ?_
      refine Ex_iconst dX12_comesTold_4 rfl ?_
      refine Ex_iload_n dX12_comesTold_5 rfl rfl ?_
      refine Ex_imul dX12_comesTold_6 rfl ?_
      refine Ex_iald12 (c := (3 * k)) dX12_comesTold_7 rfl (ma14 M) (by omega) (by omega) ?_
      rw [c1]
      refine Ex_istore_n (L2 := [_, _, _, _, _]) dX12_comesTold_8 rfl rfl rfl ?_
      refine Ex_aload_n dX12_comesTold_9 rfl rfl ?_
      refine Ex_getf dX12_comesTold_10 rfl (ma0 M) rfl rfl rfl ?_
      refine Ex_iconst dX12_comesTold_13 rfl ?_
      refine Ex_iload_n dX12_comesTold_14 rfl rfl ?_
      refine Ex_imul dX12_comesTold_15 rfl ?_
      refine Ex_iconst dX12_comesTold_16 rfl ?_
      refine Ex_iadd dX12_comesTold_17 rfl ?_
      refine Ex_iald12 (c := (3 * k + 1)) dX12_comesTold_18 rfl (ma14 M) (by omega) (by omega) ?_
      rw [c2]
      refine Ex_istore_n (L2 := [_, _, _, _, _]) dX12_comesTold_19 rfl rfl rfl ?_
      refine Ex_iconst dX12_comesTold_20 rfl ?_
      refine Ex_istore (L2 := [_, _, _, _, _]) dX12_comesTold_21 rfl rfl rfl ?_
      refine Ex_aload_n dX12_comesTold_23 rfl rfl ?_
      refine Ex_getf dX12_comesTold_24 rfl (ma0 M) rfl rfl rfl ?_
      refine Ex_iload_n dX12_comesTold_27 rfl rfl ?_
      refine Ex_iald12 (c := k) dX12_comesTold_28 rfl (ma13 M) rfl (by omega) ?_
      rw [t2]
      skip
      · refine Ex_look (off := 51) (t := 80) dX12_comesTold_29 (by omega) rfl rfl rfl ?_
        refine Ex_aload_n dX12_comesTold_80 rfl rfl ?_
        refine Ex_iload_n dX12_comesTold_81 rfl rfl ?_
        refine Ex_iload_n dX12_comesTold_82 rfl rfl ?_
        refine Ex_aload_n dX12_comesTold_83 rfl rfl ?_
        refine Ex_getf dX12_comesTold_84 rfl (ma0 M) rfl rfl rfl ?_
        refine Ex_iconst dX12_comesTold_87 rfl ?_
        refine Ex_iload_n dX12_comesTold_88 rfl rfl ?_
        refine Ex_imul dX12_comesTold_89 rfl ?_
        refine Ex_iconst dX12_comesTold_90 rfl ?_
        refine Ex_iadd dX12_comesTold_91 rfl ?_
        refine Ex_iald12 (c := (3 * k + 2)) dX12_comesTold_92 rfl (ma14 M) (by omega) (by omega) ?_
        rw [c4]
        refine Ex_inv 2 dX12_comesTold_93 rfl rfl (Or.inl rfl) rfl rfl rfl rfl (ma0 M) rfl rfl rfl (Ex_post (x12_childComes0 M hn hB (by omega) (by omega) hn6 (by omega)) ?_)
        rintro _ _ ⟨rfl, e0⟩
        obtain rfl := Eq.symm e0
        refine Ex_iret dX12_comesTold_96 rfl rfl ?_
        exact ⟨rfl, rfl⟩
  · replace c2 := c2 (by decide) (by decide)
    have hd2 := hd 2 (by omega) (by decide)
    obtain ⟨b, eb⟩ : ∃ b, b = gx xs ((i : Int) + 2) - 48 := ⟨_, rfl⟩
    rw [← eb] at c2 ⊢
    by_cases q : ((0 ≤ a ∧ a < (n : Int)) ∧ S a.toNat < 7 ∧ (0 ≤ b ∧ b ≤ 3)) ∧ mm < 999
    · have eo : ∀ u v : Int, ob 109 a b u v (n, mm, K, F, T, S, C) = some (rsM a.toNat b (n, mm, K, F, T, S, C)) := fun u v => by unfold ob; rw [if_neg (by decide), if_pos rfl]; exact if_pos q
      rw [eo]
      obtain ⟨c, rfl⟩ := Int.eq_ofNat_of_zero_le q.1.1.1
      refine Ex_aload_n dX12_comesTold_0 rfl rfl ?_
      refine Ex_getf dX12_comesTold_1 rfl (ma0 M) rfl rfl rfl ?_
      refine Ex_iconst dX12_comesTold_4 rfl ?_
      refine Ex_iload_n dX12_comesTold_5 rfl rfl ?_
      refine Ex_imul dX12_comesTold_6 rfl ?_
      refine Ex_iald12 (c := (3 * k)) dX12_comesTold_7 rfl (ma14 M) (by omega) (by omega) ?_
      rw [c1]
      refine Ex_istore_n (L2 := [_, _, _, _, _]) dX12_comesTold_8 rfl rfl rfl ?_
      refine Ex_aload_n dX12_comesTold_9 rfl rfl ?_
      refine Ex_getf dX12_comesTold_10 rfl (ma0 M) rfl rfl rfl ?_
      refine Ex_iconst dX12_comesTold_13 rfl ?_
      refine Ex_iload_n dX12_comesTold_14 rfl rfl ?_
      refine Ex_imul dX12_comesTold_15 rfl ?_
      refine Ex_iconst dX12_comesTold_16 rfl ?_
      refine Ex_iadd dX12_comesTold_17 rfl ?_
      refine Ex_iald12 (c := (3 * k + 1)) dX12_comesTold_18 rfl (ma14 M) (by omega) (by omega) ?_
      rw [c2]
      refine Ex_istore_n (L2 := [_, _, _, _, _]) dX12_comesTold_19 rfl rfl rfl ?_
      refine Ex_iconst dX12_comesTold_20 rfl ?_
      refine Ex_istore (L2 := [_, _, _, _, _]) dX12_comesTold_21 rfl rfl rfl ?_
      refine Ex_aload_n dX12_comesTold_23 rfl rfl ?_
      refine Ex_getf dX12_comesTold_24 rfl (ma0 M) rfl rfl rfl ?_
      refine Ex_iload_n dX12_comesTold_27 rfl rfl ?_
      refine Ex_iald12 (c := k) dX12_comesTold_28 rfl (ma13 M) rfl (by omega) ?_
      rw [t2]
      skip
      · refine Ex_look (off := 68) (t := 97) dX12_comesTold_29 (by omega) rfl rfl rfl ?_
        refine Ex_aload_n dX12_comesTold_97 rfl rfl ?_
        refine Ex_iload_n dX12_comesTold_98 rfl rfl ?_
        refine Ex_iload_n dX12_comesTold_99 rfl rfl ?_
        refine Ex_inv 2 dX12_comesTold_100 rfl rfl (Or.inl rfl) rfl rfl rfl rfl (ma0 M) rfl rfl rfl (Ex_post (x12_mcomes1 M hn hn6 hg hK hB (show c < n by omega) q.1.2.2 ⟨q.1.2.1, by omega⟩ hm9) ?_)
        rintro _ h1_ ⟨rfl, M1_, f1_⟩
        refine Ex_iret dX12_comesTold_103 rfl rfl ?_
        exact ⟨rfl, ⟨_, M1_, hn, (by show g 6 + 1 = mm + 1; omega), fun j _ j2 => fu_ne j2⟩, f1_⟩
    · have eo : ∀ u v : Int, ob 109 a b u v (n, mm, K, F, T, S, C) = none := fun u v => by unfold ob; rw [if_neg (by decide), if_pos rfl]; exact if_neg q
      rw [eo]
      refine Ex_aload_n dX12_comesTold_0 rfl rfl ?_
      refine Ex_getf dX12_comesTold_1 rfl (ma0 M) rfl rfl rfl ?_
      refine Ex_iconst dX12_comesTold_4 rfl ?_
      refine Ex_iload_n dX12_comesTold_5 rfl rfl ?_
      refine Ex_imul dX12_comesTold_6 rfl ?_
      refine Ex_iald12 (c := (3 * k)) dX12_comesTold_7 rfl (ma14 M) (by omega) (by omega) ?_
      rw [c1]
      refine Ex_istore_n (L2 := [_, _, _, _, _]) dX12_comesTold_8 rfl rfl rfl ?_
      refine Ex_aload_n dX12_comesTold_9 rfl rfl ?_
      refine Ex_getf dX12_comesTold_10 rfl (ma0 M) rfl rfl rfl ?_
      refine Ex_iconst dX12_comesTold_13 rfl ?_
      refine Ex_iload_n dX12_comesTold_14 rfl rfl ?_
      refine Ex_imul dX12_comesTold_15 rfl ?_
      refine Ex_iconst dX12_comesTold_16 rfl ?_
      refine Ex_iadd dX12_comesTold_17 rfl ?_
      refine Ex_iald12 (c := (3 * k + 1)) dX12_comesTold_18 rfl (ma14 M) (by omega) (by omega) ?_
      rw [c2]
      refine Ex_istore_n (L2 := [_, _, _, _, _]) dX12_comesTold_19 rfl rfl rfl ?_
      refine Ex_iconst dX12_comesTold_20 rfl ?_
      refine Ex_istore (L2 := [_, _, _, _, _]) dX12_comesTold_21 rfl rfl rfl ?_
      refine Ex_aload_n dX12_comesTold_23 rfl rfl ?_
      refine Ex_getf dX12_comesTold_24 rfl (ma0 M) rfl rfl rfl ?_
      refine Ex_iload_n dX12_comesTold_27 rfl rfl ?_
      refine Ex_iald12 (c := k) dX12_comesTold_28 rfl (ma13 M) rfl (by omega) ?_
      rw [t2]
      skip
      · refine Ex_look (off := 68) (t := 97) dX12_comesTold_29 (by omega) rfl rfl rfl ?_
        refine Ex_aload_n dX12_comesTold_97 rfl rfl ?_
        refine Ex_iload_n dX12_comesTold_98 rfl rfl ?_
        refine Ex_iload_n dX12_comesTold_99 rfl rfl ?_
        refine Ex_inv 2 dX12_comesTold_100 rfl rfl (Or.inl rfl) rfl rfl rfl rfl (ma0 M) rfl rfl rfl (Ex_post (x12_mcomes0 M hn hn6 hg hK hB (by omega) (by omega) (fun z => q ⟨⟨z.1, z.2.2.1, by omega, z.2.1⟩, by omega⟩) hm9) ?_)
        rintro _ _ ⟨rfl, e0⟩
        obtain rfl := Eq.symm e0
        refine Ex_iret dX12_comesTold_103 rfl rfl ?_
        exact ⟨rfl, rfl⟩
  · replace c3 := c3 rfl
    have hd2 := hd 2 (by omega) (by decide)
    have hd3 := hd 3 (by omega) (by decide)
    rw [show (i : Int) + 3 = (i : Int) + 2 + 1 by omega] at hd3
    obtain ⟨b, eb⟩ : ∃ b, b = (gx xs ((i : Int) + 2) - 48) * 10 + gx xs ((i : Int) + 2 + 1) - 48 := ⟨_, rfl⟩
    rw [← eb] at c3 ⊢
    by_cases q : (0 ≤ a ∧ a < (n : Int)) ∧ b ≤ 20
    · have eo : ∀ u v : Int, ob 116 a u b v (n, mm, K, F, T, S, C) = some (rsT a.toNat b (n, mm, K, F, T, S, C)) := fun u v => by unfold ob; rw [if_neg (by decide), if_neg (by decide), if_neg (by decide), if_neg (by decide), if_pos rfl]; exact if_pos q
      rw [eo]
      obtain ⟨c, rfl⟩ := Int.eq_ofNat_of_zero_le q.1.1
      refine Ex_aload_n dX12_comesTold_0 rfl rfl ?_
      refine Ex_getf dX12_comesTold_1 rfl (ma0 M) rfl rfl rfl ?_
      refine Ex_iconst dX12_comesTold_4 rfl ?_
      refine Ex_iload_n dX12_comesTold_5 rfl rfl ?_
      refine Ex_imul dX12_comesTold_6 rfl ?_
      refine Ex_iald12 (c := (3 * k)) dX12_comesTold_7 rfl (ma14 M) (by omega) (by omega) ?_
      rw [c1]
      refine Ex_istore_n (L2 := [_, _, _, _, _]) dX12_comesTold_8 rfl rfl rfl ?_
      refine Ex_aload_n dX12_comesTold_9 rfl rfl ?_
      refine Ex_getf dX12_comesTold_10 rfl (ma0 M) rfl rfl rfl ?_
      refine Ex_iconst dX12_comesTold_13 rfl ?_
      refine Ex_iload_n dX12_comesTold_14 rfl rfl ?_
      refine Ex_imul dX12_comesTold_15 rfl ?_
      refine Ex_iconst dX12_comesTold_16 rfl ?_
      refine Ex_iadd dX12_comesTold_17 rfl ?_
      refine Ex_iald12 (c := (3 * k + 1)) dX12_comesTold_18 rfl (ma14 M) (by omega) (by omega) ?_
      rw [c3]
      refine Ex_istore_n (L2 := [_, _, _, _, _]) dX12_comesTold_19 rfl rfl rfl ?_
      refine Ex_iconst dX12_comesTold_20 rfl ?_
      refine Ex_istore (L2 := [_, _, _, _, _]) dX12_comesTold_21 rfl rfl rfl ?_
      refine Ex_aload_n dX12_comesTold_23 rfl rfl ?_
      refine Ex_getf dX12_comesTold_24 rfl (ma0 M) rfl rfl rfl ?_
      refine Ex_iload_n dX12_comesTold_27 rfl rfl ?_
      refine Ex_iald12 (c := k) dX12_comesTold_28 rfl (ma13 M) rfl (by omega) ?_
      rw [t2]
      skip
      · refine Ex_look (off := 124) (t := 153) dX12_comesTold_29 (by omega) rfl rfl rfl ?_
        refine Ex_aload_n dX12_comesTold_153 rfl rfl ?_
        refine Ex_iload_n dX12_comesTold_154 rfl rfl ?_
        refine Ex_inv 2 dX12_comesTold_155 rfl rfl (Or.inl rfl) rfl rfl rfl rfl (ma0 M) rfl rfl rfl (Ex_post (x12_isChild M hn hn6 (by omega)) ?_)
        rintro _ _ ⟨rfl, e0⟩
        obtain rfl := Eq.symm e0
        refine Ex_if_eq (t := 171) dX12_comesTold_158 rfl rfl (by omega) (fun c158 => absurd c158 (by omega)) (fun c158 => ?_)
        refine Ex_iload_n dX12_comesTold_161 rfl rfl ?_
        refine Ex_bipush dX12_comesTold_162 rfl (by decide) ?_
        refine Ex_icmp_gt (t := 171) dX12_comesTold_164 rfl rfl (by omega) (fun c164 => absurd c164 (by omega)) (fun c164 => ?_)
        refine Ex_iconst dX12_comesTold_167 rfl ?_
        refine Ex_goto (t := 172) dX12_comesTold_168 rfl ?_
        refine Ex_istore (L2 := [_, _, _, _, _]) dX12_comesTold_172 rfl rfl rfl ?_
        refine Ex_iload dX12_comesTold_174 rfl rfl ?_
        refine Ex_if_eq (t := 186) dX12_comesTold_176 rfl rfl (by omega) (fun c176 => absurd c176 (by omega)) (fun c176 => ?_)
        refine Ex_aload_n dX12_comesTold_179 rfl rfl ?_
        refine Ex_getf dX12_comesTold_180 rfl (ma0 M) rfl rfl rfl ?_
        refine Ex_iload_n dX12_comesTold_183 rfl rfl ?_
        refine Ex_iload_n dX12_comesTold_184 rfl rfl ?_
        refine Ex_iast12 (c := c) dX12_comesTold_185 rfl (ma3 M) rfl (by omega) (by omega) ?_
        refine mg3 M ?_
        intro h1_ M1_ f1_
        refine Ex_iload dX12_comesTold_186 rfl rfl ?_
        refine Ex_iret dX12_comesTold_188 rfl rfl ?_
        exact ⟨rfl, ⟨_, M1_, hn, h6, fun _ _ _ => rfl⟩, f1_⟩
    · have eo : ∀ u v : Int, ob 116 a u b v (n, mm, K, F, T, S, C) = none := fun u v => by unfold ob; rw [if_neg (by decide), if_neg (by decide), if_neg (by decide), if_neg (by decide), if_pos rfl]; exact if_neg q
      rw [eo]
      refine Ex_aload_n dX12_comesTold_0 rfl rfl ?_
      refine Ex_getf dX12_comesTold_1 rfl (ma0 M) rfl rfl rfl ?_
      refine Ex_iconst dX12_comesTold_4 rfl ?_
      refine Ex_iload_n dX12_comesTold_5 rfl rfl ?_
      refine Ex_imul dX12_comesTold_6 rfl ?_
      refine Ex_iald12 (c := (3 * k)) dX12_comesTold_7 rfl (ma14 M) (by omega) (by omega) ?_
      rw [c1]
      refine Ex_istore_n (L2 := [_, _, _, _, _]) dX12_comesTold_8 rfl rfl rfl ?_
      refine Ex_aload_n dX12_comesTold_9 rfl rfl ?_
      refine Ex_getf dX12_comesTold_10 rfl (ma0 M) rfl rfl rfl ?_
      refine Ex_iconst dX12_comesTold_13 rfl ?_
      refine Ex_iload_n dX12_comesTold_14 rfl rfl ?_
      refine Ex_imul dX12_comesTold_15 rfl ?_
      refine Ex_iconst dX12_comesTold_16 rfl ?_
      refine Ex_iadd dX12_comesTold_17 rfl ?_
      refine Ex_iald12 (c := (3 * k + 1)) dX12_comesTold_18 rfl (ma14 M) (by omega) (by omega) ?_
      rw [c3]
      refine Ex_istore_n (L2 := [_, _, _, _, _]) dX12_comesTold_19 rfl rfl rfl ?_
      refine Ex_iconst dX12_comesTold_20 rfl ?_
      refine Ex_istore (L2 := [_, _, _, _, _]) dX12_comesTold_21 rfl rfl rfl ?_
      refine Ex_aload_n dX12_comesTold_23 rfl rfl ?_
      refine Ex_getf dX12_comesTold_24 rfl (ma0 M) rfl rfl rfl ?_
      refine Ex_iload_n dX12_comesTold_27 rfl rfl ?_
      refine Ex_iald12 (c := k) dX12_comesTold_28 rfl (ma13 M) rfl (by omega) ?_
      rw [t2]
      skip
      · refine Ex_look (off := 124) (t := 153) dX12_comesTold_29 (by omega) rfl rfl rfl ?_
        refine Ex_aload_n dX12_comesTold_153 rfl rfl ?_
        refine Ex_iload_n dX12_comesTold_154 rfl rfl ?_
        refine Ex_inv 2 dX12_comesTold_155 rfl rfl (Or.inl rfl) rfl rfl rfl rfl (ma0 M) rfl rfl rfl (Ex_post (x12_isChild M hn hn6 (by omega)) ?_)
        rintro _ _ ⟨rfl, e0⟩
        obtain rfl := Eq.symm e0
        refine Ex_if_eq (t := 171) dX12_comesTold_158 rfl rfl (by omega) (fun c158 => ?_) (fun c158 => ?_)
        · refine Ex_iconst dX12_comesTold_171 rfl ?_
          refine Ex_istore (L2 := [_, _, _, _, _]) dX12_comesTold_172 rfl rfl rfl ?_
          refine Ex_iload dX12_comesTold_174 rfl rfl ?_
          refine Ex_if_eq (t := 186) dX12_comesTold_176 rfl rfl (by omega) (fun c176 => ?_) (fun c176 => absurd c176 (by omega))
          refine Ex_iload dX12_comesTold_186 rfl rfl ?_
          refine Ex_iret dX12_comesTold_188 rfl rfl ?_
          exact ⟨rfl, rfl⟩
        · refine Ex_iload_n dX12_comesTold_161 rfl rfl ?_
          refine Ex_bipush dX12_comesTold_162 rfl (by decide) ?_
          refine Ex_icmp_gt (t := 171) dX12_comesTold_164 rfl rfl (by omega) (fun c164 => ?_) (fun c164 => ?_)
          · refine Ex_iconst dX12_comesTold_171 rfl ?_
            refine Ex_istore (L2 := [_, _, _, _, _]) dX12_comesTold_172 rfl rfl rfl ?_
            refine Ex_iload dX12_comesTold_174 rfl rfl ?_
            refine Ex_if_eq (t := 186) dX12_comesTold_176 rfl rfl (by omega) (fun c176 => ?_) (fun c176 => absurd c176 (by omega))
            refine Ex_iload dX12_comesTold_186 rfl rfl ?_
            refine Ex_iret dX12_comesTold_188 rfl rfl ?_
            exact ⟨rfl, rfl⟩
          · refine Ex_iconst dX12_comesTold_167 rfl ?_
            refine Ex_goto (t := 172) dX12_comesTold_168 rfl ?_
            refine Ex_istore (L2 := [_, _, _, _, _]) dX12_comesTold_172 rfl rfl rfl ?_
            refine Ex_iload dX12_comesTold_174 rfl rfl ?_
            refine Ex_if_eq (t := 186) dX12_comesTold_176 rfl rfl (by omega) (fun c176 => absurd c176 (by omega)) (fun c176 => ?_)
            exfalso; omega
  · replace c2 := c2 (by decide) (by decide)
    have hd2 := hd 2 (by omega) (by decide)
    obtain ⟨b, eb⟩ : ∃ b, b = gx xs ((i : Int) + 2) - 48 := ⟨_, rfl⟩
    rw [← eb] at c2 ⊢
    by_cases q : (0 ≤ a ∧ a < (n : Int)) ∧ (0 ≤ b ∧ b < (n : Int)) ∧ a ≠ b
    · have eo : ∀ u v : Int, ob 120 a b u v (n, mm, K, F, T, S, C) = some (rsX a.toNat b.toNat (n, mm, K, F, T, S, C)) := fun u v => by unfold ob; rw [if_neg (by decide), if_neg (by decide), if_neg (by decide), if_pos rfl]; exact if_pos q
      rw [eo]
      obtain ⟨c, rfl⟩ := Int.eq_ofNat_of_zero_le q.1.1
      obtain ⟨b, rfl⟩ := Int.eq_ofNat_of_zero_le q.2.1.1
      refine Ex_aload_n dX12_comesTold_0 rfl rfl ?_
      refine Ex_getf dX12_comesTold_1 rfl (ma0 M) rfl rfl rfl ?_
      refine Ex_iconst dX12_comesTold_4 rfl ?_
      refine Ex_iload_n dX12_comesTold_5 rfl rfl ?_
      refine Ex_imul dX12_comesTold_6 rfl ?_
      refine Ex_iald12 (c := (3 * k)) dX12_comesTold_7 rfl (ma14 M) (by omega) (by omega) ?_
      rw [c1]
      refine Ex_istore_n (L2 := [_, _, _, _, _]) dX12_comesTold_8 rfl rfl rfl ?_
      refine Ex_aload_n dX12_comesTold_9 rfl rfl ?_
      refine Ex_getf dX12_comesTold_10 rfl (ma0 M) rfl rfl rfl ?_
      refine Ex_iconst dX12_comesTold_13 rfl ?_
      refine Ex_iload_n dX12_comesTold_14 rfl rfl ?_
      refine Ex_imul dX12_comesTold_15 rfl ?_
      refine Ex_iconst dX12_comesTold_16 rfl ?_
      refine Ex_iadd dX12_comesTold_17 rfl ?_
      refine Ex_iald12 (c := (3 * k + 1)) dX12_comesTold_18 rfl (ma14 M) (by omega) (by omega) ?_
      rw [c2]
      refine Ex_istore_n (L2 := [_, _, _, _, _]) dX12_comesTold_19 rfl rfl rfl ?_
      refine Ex_iconst dX12_comesTold_20 rfl ?_
      refine Ex_istore (L2 := [_, _, _, _, _]) dX12_comesTold_21 rfl rfl rfl ?_
      refine Ex_aload_n dX12_comesTold_23 rfl rfl ?_
      refine Ex_getf dX12_comesTold_24 rfl (ma0 M) rfl rfl rfl ?_
      refine Ex_iload_n dX12_comesTold_27 rfl rfl ?_
      refine Ex_iald12 (c := k) dX12_comesTold_28 rfl (ma13 M) rfl (by omega) ?_
      rw [t2]
      skip
      · refine Ex_look (off := 82) (t := 111) dX12_comesTold_29 (by omega) rfl rfl rfl ?_
        refine Ex_aload_n dX12_comesTold_111 rfl rfl ?_
        refine Ex_iload_n dX12_comesTold_112 rfl rfl ?_
        refine Ex_inv 2 dX12_comesTold_113 rfl rfl (Or.inl rfl) rfl rfl rfl rfl (ma0 M) rfl rfl rfl (Ex_post (x12_isChild M hn hn6 (by omega)) ?_)
        rintro _ _ ⟨rfl, e0⟩
        obtain rfl := Eq.symm e0
        refine Ex_if_eq (t := 136) dX12_comesTold_116 rfl rfl (by omega) (fun c116 => absurd c116 (by omega)) (fun c116 => ?_)
        refine Ex_aload_n dX12_comesTold_119 rfl rfl ?_
        refine Ex_iload_n dX12_comesTold_120 rfl rfl ?_
        refine Ex_inv 2 dX12_comesTold_121 rfl rfl (Or.inl rfl) rfl rfl rfl rfl (ma0 M) rfl rfl rfl (Ex_post (x12_isChild M hn hn6 (by omega)) ?_)
        rintro _ _ ⟨rfl, e0⟩
        obtain rfl := Eq.symm e0
        refine Ex_if_eq (t := 136) dX12_comesTold_124 rfl rfl (by omega) (fun c124 => absurd c124 (by omega)) (fun c124 => ?_)
        refine Ex_iload_n dX12_comesTold_127 rfl rfl ?_
        refine Ex_iload_n dX12_comesTold_128 rfl rfl ?_
        refine Ex_icmp_eq (t := 136) dX12_comesTold_129 rfl rfl (by omega) (fun c129 => absurd c129 (by omega)) (fun c129 => ?_)
        refine Ex_iconst dX12_comesTold_132 rfl ?_
        refine Ex_goto (t := 137) dX12_comesTold_133 rfl ?_
        refine Ex_istore (L2 := [_, _, _, _, _]) dX12_comesTold_137 rfl rfl rfl ?_
        refine Ex_iload dX12_comesTold_139 rfl rfl ?_
        refine Ex_if_eq (t := 150) dX12_comesTold_141 rfl rfl (by omega) (fun c141 => absurd c141 (by omega)) (fun c141 => ?_)
        refine Ex_aload_n dX12_comesTold_144 rfl rfl ?_
        refine Ex_iload_n dX12_comesTold_145 rfl rfl ?_
        refine Ex_iload_n dX12_comesTold_146 rfl rfl ?_
        refine Ex_inv 2 dX12_comesTold_147 rfl rfl (Or.inl rfl) rfl rfl rfl rfl (ma0 M) rfl rfl rfl (Ex_post (x12_swapAll M hB (by omega) (by omega) (by omega)) ?_)
        rintro _ h1_ ⟨rfl, M1_, f1_⟩
        refine Ex_iload dX12_comesTold_150 rfl rfl ?_
        refine Ex_iret dX12_comesTold_152 rfl rfl ?_
        exact ⟨rfl, ⟨_, M1_, hn, h6, fun _ _ _ => rfl⟩, f1_⟩
    · have eo : ∀ u v : Int, ob 120 a b u v (n, mm, K, F, T, S, C) = none := fun u v => by unfold ob; rw [if_neg (by decide), if_neg (by decide), if_neg (by decide), if_pos rfl]; exact if_neg q
      rw [eo]
      refine Ex_aload_n dX12_comesTold_0 rfl rfl ?_
      refine Ex_getf dX12_comesTold_1 rfl (ma0 M) rfl rfl rfl ?_
      refine Ex_iconst dX12_comesTold_4 rfl ?_
      refine Ex_iload_n dX12_comesTold_5 rfl rfl ?_
      refine Ex_imul dX12_comesTold_6 rfl ?_
      refine Ex_iald12 (c := (3 * k)) dX12_comesTold_7 rfl (ma14 M) (by omega) (by omega) ?_
      rw [c1]
      refine Ex_istore_n (L2 := [_, _, _, _, _]) dX12_comesTold_8 rfl rfl rfl ?_
      refine Ex_aload_n dX12_comesTold_9 rfl rfl ?_
      refine Ex_getf dX12_comesTold_10 rfl (ma0 M) rfl rfl rfl ?_
      refine Ex_iconst dX12_comesTold_13 rfl ?_
      refine Ex_iload_n dX12_comesTold_14 rfl rfl ?_
      refine Ex_imul dX12_comesTold_15 rfl ?_
      refine Ex_iconst dX12_comesTold_16 rfl ?_
      refine Ex_iadd dX12_comesTold_17 rfl ?_
      refine Ex_iald12 (c := (3 * k + 1)) dX12_comesTold_18 rfl (ma14 M) (by omega) (by omega) ?_
      rw [c2]
      refine Ex_istore_n (L2 := [_, _, _, _, _]) dX12_comesTold_19 rfl rfl rfl ?_
      refine Ex_iconst dX12_comesTold_20 rfl ?_
      refine Ex_istore (L2 := [_, _, _, _, _]) dX12_comesTold_21 rfl rfl rfl ?_
      refine Ex_aload_n dX12_comesTold_23 rfl rfl ?_
      refine Ex_getf dX12_comesTold_24 rfl (ma0 M) rfl rfl rfl ?_
      refine Ex_iload_n dX12_comesTold_27 rfl rfl ?_
      refine Ex_iald12 (c := k) dX12_comesTold_28 rfl (ma13 M) rfl (by omega) ?_
      rw [t2]
      skip
      · refine Ex_look (off := 82) (t := 111) dX12_comesTold_29 (by omega) rfl rfl rfl ?_
        refine Ex_aload_n dX12_comesTold_111 rfl rfl ?_
        refine Ex_iload_n dX12_comesTold_112 rfl rfl ?_
        refine Ex_inv 2 dX12_comesTold_113 rfl rfl (Or.inl rfl) rfl rfl rfl rfl (ma0 M) rfl rfl rfl (Ex_post (x12_isChild M hn hn6 (by omega)) ?_)
        rintro _ _ ⟨rfl, e0⟩
        obtain rfl := Eq.symm e0
        refine Ex_if_eq (t := 136) dX12_comesTold_116 rfl rfl (by omega) (fun c116 => ?_) (fun c116 => ?_)
        · refine Ex_iconst dX12_comesTold_136 rfl ?_
          refine Ex_istore (L2 := [_, _, _, _, _]) dX12_comesTold_137 rfl rfl rfl ?_
          refine Ex_iload dX12_comesTold_139 rfl rfl ?_
          refine Ex_if_eq (t := 150) dX12_comesTold_141 rfl rfl (by omega) (fun c141 => ?_) (fun c141 => absurd c141 (by omega))
          refine Ex_iload dX12_comesTold_150 rfl rfl ?_
          refine Ex_iret dX12_comesTold_152 rfl rfl ?_
          exact ⟨rfl, rfl⟩
        · refine Ex_aload_n dX12_comesTold_119 rfl rfl ?_
          refine Ex_iload_n dX12_comesTold_120 rfl rfl ?_
          refine Ex_inv 2 dX12_comesTold_121 rfl rfl (Or.inl rfl) rfl rfl rfl rfl (ma0 M) rfl rfl rfl (Ex_post (x12_isChild M hn hn6 (by omega)) ?_)
          rintro _ _ ⟨rfl, e0⟩
          obtain rfl := Eq.symm e0
          refine Ex_if_eq (t := 136) dX12_comesTold_124 rfl rfl (by omega) (fun c124 => ?_) (fun c124 => ?_)
          · refine Ex_iconst dX12_comesTold_136 rfl ?_
            refine Ex_istore (L2 := [_, _, _, _, _]) dX12_comesTold_137 rfl rfl rfl ?_
            refine Ex_iload dX12_comesTold_139 rfl rfl ?_
            refine Ex_if_eq (t := 150) dX12_comesTold_141 rfl rfl (by omega) (fun c141 => ?_) (fun c141 => absurd c141 (by omega))
            refine Ex_iload dX12_comesTold_150 rfl rfl ?_
            refine Ex_iret dX12_comesTold_152 rfl rfl ?_
            exact ⟨rfl, rfl⟩
          · refine Ex_iload_n dX12_comesTold_127 rfl rfl ?_
            refine Ex_iload_n dX12_comesTold_128 rfl rfl ?_
            refine Ex_icmp_eq (t := 136) dX12_comesTold_129 rfl rfl (by omega) (fun c129 => ?_) (fun c129 => ?_)
            · refine Ex_iconst dX12_comesTold_136 rfl ?_
              refine Ex_istore (L2 := [_, _, _, _, _]) dX12_comesTold_137 rfl rfl rfl ?_
              refine Ex_iload dX12_comesTold_139 rfl rfl ?_
              refine Ex_if_eq (t := 150) dX12_comesTold_141 rfl rfl (by omega) (fun c141 => ?_) (fun c141 => absurd c141 (by omega))
              refine Ex_iload dX12_comesTold_150 rfl rfl ?_
              refine Ex_iret dX12_comesTold_152 rfl rfl ?_
              exact ⟨rfl, rfl⟩
            · refine Ex_iconst dX12_comesTold_132 rfl ?_
              refine Ex_goto (t := 137) dX12_comesTold_133 rfl ?_
              refine Ex_istore (L2 := [_, _, _, _, _]) dX12_comesTold_137 rfl rfl rfl ?_
              refine Ex_iload dX12_comesTold_139 rfl rfl ?_
              refine Ex_if_eq (t := 150) dX12_comesTold_141 rfl rfl (by omega) (fun c141 => absurd c141 (by omega)) (fun c141 => ?_)
              exfalso; omega
  · replace c2 := c2 (by decide) (by decide)
    have hd2 := hd 2 (by omega) (by decide)
    obtain ⟨b, eb⟩ : ∃ b, b = gx xs ((i : Int) + 2) - 48 := ⟨_, rfl⟩
    rw [← eb] at c2 ⊢
    by_cases q : (0 ≤ a ∧ a < (n : Int)) ∧ b ≤ 7
    · have eo : ∀ u v : Int, ob 115 a b u v (n, mm, K, F, T, S, C) = some (rsS a.toNat b (n, mm, K, F, T, S, C)) := fun u v => by unfold ob; rw [if_neg (by decide), if_neg (by decide), if_neg (by decide), if_neg (by decide), if_neg (by decide)]; exact if_pos q
      rw [eo]
      obtain ⟨c, rfl⟩ := Int.eq_ofNat_of_zero_le q.1.1
      refine Ex_aload_n dX12_comesTold_0 rfl rfl ?_
      refine Ex_getf dX12_comesTold_1 rfl (ma0 M) rfl rfl rfl ?_
      refine Ex_iconst dX12_comesTold_4 rfl ?_
      refine Ex_iload_n dX12_comesTold_5 rfl rfl ?_
      refine Ex_imul dX12_comesTold_6 rfl ?_
      refine Ex_iald12 (c := (3 * k)) dX12_comesTold_7 rfl (ma14 M) (by omega) (by omega) ?_
      rw [c1]
      refine Ex_istore_n (L2 := [_, _, _, _, _]) dX12_comesTold_8 rfl rfl rfl ?_
      refine Ex_aload_n dX12_comesTold_9 rfl rfl ?_
      refine Ex_getf dX12_comesTold_10 rfl (ma0 M) rfl rfl rfl ?_
      refine Ex_iconst dX12_comesTold_13 rfl ?_
      refine Ex_iload_n dX12_comesTold_14 rfl rfl ?_
      refine Ex_imul dX12_comesTold_15 rfl ?_
      refine Ex_iconst dX12_comesTold_16 rfl ?_
      refine Ex_iadd dX12_comesTold_17 rfl ?_
      refine Ex_iald12 (c := (3 * k + 1)) dX12_comesTold_18 rfl (ma14 M) (by omega) (by omega) ?_
      rw [c2]
      refine Ex_istore_n (L2 := [_, _, _, _, _]) dX12_comesTold_19 rfl rfl rfl ?_
      refine Ex_iconst dX12_comesTold_20 rfl ?_
      refine Ex_istore (L2 := [_, _, _, _, _]) dX12_comesTold_21 rfl rfl rfl ?_
      refine Ex_aload_n dX12_comesTold_23 rfl rfl ?_
      refine Ex_getf dX12_comesTold_24 rfl (ma0 M) rfl rfl rfl ?_
      refine Ex_iload_n dX12_comesTold_27 rfl rfl ?_
      refine Ex_iald12 (c := k) dX12_comesTold_28 rfl (ma13 M) rfl (by omega) ?_
      rw [t2]
      skip
      · refine Ex_look (off := 160) (t := 189) dX12_comesTold_29 (by omega) rfl rfl rfl ?_
        refine Ex_aload_n dX12_comesTold_189 rfl rfl ?_
        refine Ex_iload_n dX12_comesTold_190 rfl rfl ?_
        refine Ex_inv 2 dX12_comesTold_191 rfl rfl (Or.inl rfl) rfl rfl rfl rfl (ma0 M) rfl rfl rfl (Ex_post (x12_isChild M hn hn6 (by omega)) ?_)
        rintro _ _ ⟨rfl, e0⟩
        obtain rfl := Eq.symm e0
        refine Ex_if_eq (t := 207) dX12_comesTold_194 rfl rfl (by omega) (fun c194 => absurd c194 (by omega)) (fun c194 => ?_)
        refine Ex_iload_n dX12_comesTold_197 rfl rfl ?_
        refine Ex_bipush dX12_comesTold_198 rfl (by decide) ?_
        refine Ex_icmp_gt (t := 207) dX12_comesTold_200 rfl rfl (by omega) (fun c200 => absurd c200 (by omega)) (fun c200 => ?_)
        refine Ex_iconst dX12_comesTold_203 rfl ?_
        refine Ex_goto (t := 208) dX12_comesTold_204 rfl ?_
        refine Ex_istore (L2 := [_, _, _, _, _]) dX12_comesTold_208 rfl rfl rfl ?_
        refine Ex_iload dX12_comesTold_210 rfl rfl ?_
        refine Ex_if_eq (t := 222) dX12_comesTold_212 rfl rfl (by omega) (fun c212 => absurd c212 (by omega)) (fun c212 => ?_)
        refine Ex_aload_n dX12_comesTold_215 rfl rfl ?_
        refine Ex_getf dX12_comesTold_216 rfl (ma0 M) rfl rfl rfl ?_
        refine Ex_iload_n dX12_comesTold_219 rfl rfl ?_
        refine Ex_iload_n dX12_comesTold_220 rfl rfl ?_
        refine Ex_iast12 (c := c) dX12_comesTold_221 rfl (ma4 M) rfl (by omega) (by omega) ?_
        refine mg4 M ?_
        intro h1_ M1_ f1_
        refine Ex_iload dX12_comesTold_222 rfl rfl ?_
        refine Ex_iret dX12_comesTold_224 rfl rfl ?_
        exact ⟨rfl, ⟨_, M1_, hn, h6, fun _ _ _ => rfl⟩, f1_⟩
    · have eo : ∀ u v : Int, ob 115 a b u v (n, mm, K, F, T, S, C) = none := fun u v => by unfold ob; rw [if_neg (by decide), if_neg (by decide), if_neg (by decide), if_neg (by decide), if_neg (by decide)]; exact if_neg q
      rw [eo]
      refine Ex_aload_n dX12_comesTold_0 rfl rfl ?_
      refine Ex_getf dX12_comesTold_1 rfl (ma0 M) rfl rfl rfl ?_
      refine Ex_iconst dX12_comesTold_4 rfl ?_
      refine Ex_iload_n dX12_comesTold_5 rfl rfl ?_
      refine Ex_imul dX12_comesTold_6 rfl ?_
      refine Ex_iald12 (c := (3 * k)) dX12_comesTold_7 rfl (ma14 M) (by omega) (by omega) ?_
      rw [c1]
      refine Ex_istore_n (L2 := [_, _, _, _, _]) dX12_comesTold_8 rfl rfl rfl ?_
      refine Ex_aload_n dX12_comesTold_9 rfl rfl ?_
      refine Ex_getf dX12_comesTold_10 rfl (ma0 M) rfl rfl rfl ?_
      refine Ex_iconst dX12_comesTold_13 rfl ?_
      refine Ex_iload_n dX12_comesTold_14 rfl rfl ?_
      refine Ex_imul dX12_comesTold_15 rfl ?_
      refine Ex_iconst dX12_comesTold_16 rfl ?_
      refine Ex_iadd dX12_comesTold_17 rfl ?_
      refine Ex_iald12 (c := (3 * k + 1)) dX12_comesTold_18 rfl (ma14 M) (by omega) (by omega) ?_
      rw [c2]
      refine Ex_istore_n (L2 := [_, _, _, _, _]) dX12_comesTold_19 rfl rfl rfl ?_
      refine Ex_iconst dX12_comesTold_20 rfl ?_
      refine Ex_istore (L2 := [_, _, _, _, _]) dX12_comesTold_21 rfl rfl rfl ?_
      refine Ex_aload_n dX12_comesTold_23 rfl rfl ?_
      refine Ex_getf dX12_comesTold_24 rfl (ma0 M) rfl rfl rfl ?_
      refine Ex_iload_n dX12_comesTold_27 rfl rfl ?_
      refine Ex_iald12 (c := k) dX12_comesTold_28 rfl (ma13 M) rfl (by omega) ?_
      rw [t2]
      skip
      · refine Ex_look (off := 160) (t := 189) dX12_comesTold_29 (by omega) rfl rfl rfl ?_
        refine Ex_aload_n dX12_comesTold_189 rfl rfl ?_
        refine Ex_iload_n dX12_comesTold_190 rfl rfl ?_
        refine Ex_inv 2 dX12_comesTold_191 rfl rfl (Or.inl rfl) rfl rfl rfl rfl (ma0 M) rfl rfl rfl (Ex_post (x12_isChild M hn hn6 (by omega)) ?_)
        rintro _ _ ⟨rfl, e0⟩
        obtain rfl := Eq.symm e0
        refine Ex_if_eq (t := 207) dX12_comesTold_194 rfl rfl (by omega) (fun c194 => ?_) (fun c194 => ?_)
        · refine Ex_iconst dX12_comesTold_207 rfl ?_
          refine Ex_istore (L2 := [_, _, _, _, _]) dX12_comesTold_208 rfl rfl rfl ?_
          refine Ex_iload dX12_comesTold_210 rfl rfl ?_
          refine Ex_if_eq (t := 222) dX12_comesTold_212 rfl rfl (by omega) (fun c212 => ?_) (fun c212 => absurd c212 (by omega))
          refine Ex_iload dX12_comesTold_222 rfl rfl ?_
          refine Ex_iret dX12_comesTold_224 rfl rfl ?_
          exact ⟨rfl, rfl⟩
        · refine Ex_iload_n dX12_comesTold_197 rfl rfl ?_
          refine Ex_bipush dX12_comesTold_198 rfl (by decide) ?_
          refine Ex_icmp_gt (t := 207) dX12_comesTold_200 rfl rfl (by omega) (fun c200 => ?_) (fun c200 => ?_)
          · refine Ex_iconst dX12_comesTold_207 rfl ?_
            refine Ex_istore (L2 := [_, _, _, _, _]) dX12_comesTold_208 rfl rfl rfl ?_
            refine Ex_iload dX12_comesTold_210 rfl rfl ?_
            refine Ex_if_eq (t := 222) dX12_comesTold_212 rfl rfl (by omega) (fun c212 => ?_) (fun c212 => absurd c212 (by omega))
            refine Ex_iload dX12_comesTold_222 rfl rfl ?_
            refine Ex_iret dX12_comesTold_224 rfl rfl ?_
            exact ⟨rfl, rfl⟩
          · refine Ex_iconst dX12_comesTold_203 rfl ?_
            refine Ex_goto (t := 208) dX12_comesTold_204 rfl ?_
            refine Ex_istore (L2 := [_, _, _, _, _]) dX12_comesTold_208 rfl rfl rfl ?_
            refine Ex_iload dX12_comesTold_210 rfl rfl ?_
            refine Ex_if_eq (t := 222) dX12_comesTold_212 rfl rfl (by omega) (fun c212 => absurd c212 (by omega)) (fun c212 => ?_)
            exfalso; omega
