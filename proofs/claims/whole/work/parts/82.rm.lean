/-! the reference: judge, weeks (by program: wip/whole/spec_rm.py) -/
theorem x12_judge {E : am_E} {d : Nat} {h : Hp} {m n : Nat} {mm hi : Int} {K F T S C : Nat → Int} {σ : Nat → Nat → Int} {hw ck cf rs : Nat → Int} {rx : Nat → List Int} {a c : Int}  (I : MI h m (n, mm, K, F, T, S, C) hi σ) (hn6 : n ≤ 6) (hg : Rng n T S C) (hK : ∀ i, i < n → (0 ≤ K i ∧ K i ≤ 7) ∧ (0 ≤ F i ∧ F i ≤ 9)) (hB : E.2 ≤ m) (V : Sv σ hw ck cf rs rx) (ha : (-2147483648 ≤ a ∧ a ≤ 2147483647)) (hc : (-2147483648 ≤ c ∧ c ≤ 2147483647))  : Ex E (d + 6) mX12_judge 0 [.ref m, .int (i32 a), .int (i32 c), .retAddr 0, .retAddr 0, .retAddr 0, .retAddr 0, .retAddr 0] [] h (fun r1 h1 => r1 = some (.int (i32 (an_judge hw rs rx n mm K F T S C a c))) ∧ (∃ σ2, MI h1 m (n, mm, K, F, T, S, C) hi σ2 ∧ Sv σ2 hw ck cf rs rx ∧ σ2 16 = σ 16) ∧ Fr h h1 m (m + 23)) := by
  obtain ⟨g, ρ, kp, M, hn, h6, h23, hσ⟩ := I
  have M : MAt h m g K F T S C ρ kp := M
  have hn : g 0 = (n : Int) := hn
  have h6 : g 6 = mm := h6
  have V : Sv ρ hw ck cf rs rx := V.cg hσ
  have h16 : ρ 16 = σ 16 := hσ 16 (Or.inr rfl)
  clear hσ
  have hσ : ∀ j, (6 ≤ j ∧ j ≤ 11) ∨ j = 16 → ρ j = ρ j := fun _ _ => rfl
  by_cases q : (0 ≤ a ∧ a ≤ 7) ∧ (0 ≤ c ∧ c < (n : Int))
  · by_cases q1 : hw a.toNat = 2
    · have ea : an_judge hw rs rx n mm K F T S C a c = jdg K F n c.toNat (rs a.toNat) (rx a.toNat) (mm, 0, T, S, C) 0 (rx a.toNat).length := by unfold an_judge; rw [if_pos q]; exact if_pos q1
      rw [ea]
      obtain ⟨a, rfl⟩ := Int.eq_ofNat_of_zero_le q.1.1
      obtain ⟨c, rfl⟩ := Int.eq_ofNat_of_zero_le q.2.1
      simp only [Int.toNat_natCast] at *
      obtain ⟨v6, v3, vk, vr⟩ := V a (by omega)
      obtain ⟨w1, w2, w3, w4⟩ := vr q1
      refine Ex_aload_n dX12_judge_0 rfl rfl ?_
      refine Ex_iconst dX12_judge_1 rfl ?_
      refine Ex_put12 (k0 := 13) (v := 0) dX12_judge_2 rfl (ma0 M) rfl rfl rfl rfl rfl (by omega) rfl ?_
      refine mg0 M ?_
      intro h1_ M1_ f1_
      refine Ex_aload_n dX12_judge_5 rfl rfl ?_
      refine Ex_iload_n dX12_judge_6 rfl rfl ?_
      refine Ex_inv 2 dX12_judge_7 rfl rfl (Or.inl rfl) rfl rfl rfl rfl (ma0 M1_) rfl rfl rfl (Ex_post (x12_isChild M1_ hn hn6 (by omega)) ?_)
      rintro _ _ ⟨rfl, e0⟩
      obtain rfl := Eq.symm e0
      refine Ex_if_eq (t := 21) dX12_judge_10 rfl rfl (by omega) (fun c10 => absurd c10 (by omega)) (fun c10 => ?_)
      refine Ex_aload_n dX12_judge_13 rfl rfl ?_
      refine Ex_iload_n dX12_judge_14 rfl rfl ?_
      refine Ex_inv 2 dX12_judge_15 rfl rfl (Or.inl rfl) rfl rfl rfl rfl (ma0 M1_) rfl rfl rfl (Ex_post (x12_wR M1_ V (by omega)) ?_)
      rintro _ _ ⟨rfl, e0⟩
      obtain rfl := Eq.symm e0
      rw [if_pos ⟨q.1, q1⟩]
      refine Ex_goto (t := 22) dX12_judge_18 rfl ?_
      refine Ex_istore_n (L2 := [_, _, _, _, _, _, _, _]) dX12_judge_22 rfl rfl rfl ?_
      refine Ex_iload_n dX12_judge_23 rfl rfl ?_
      refine Ex_if_ge (t := 29) dX12_judge_24 rfl rfl (by omega) (fun c24 => ?_) (fun c24 => absurd c24 (by omega))
      refine Ex_bipush dX12_judge_29 rfl (by decide) ?_
      refine Ex_istore (L2 := [_, _, _, _, _, _, _, _]) dX12_judge_31 rfl rfl rfl ?_
      refine Ex_aload_n dX12_judge_33 rfl rfl ?_
      refine Ex_iconst dX12_judge_34 rfl ?_
      refine Ex_put12 (k0 := 33) (v := 0) dX12_judge_35 rfl (ma0 M1_) rfl rfl rfl rfl rfl (by omega) rfl ?_
      refine mg0 M1_ ?_
      intro h2_ M2_ f2_
      refine Ex_aload_n dX12_judge_38 rfl rfl ?_
      refine Ex_inv 2 dX12_judge_39 rfl rfl (Or.inl rfl) rfl rfl rfl rfl (ma0 M2_) rfl rfl rfl (Ex_post (x12_open M2_ hn h6 hB) ?_)
      rintro _ h3_ ⟨rfl, ⟨g2_, fo_, M3_, hpk, e2⟩, f3_⟩
      refine Ex_iconst dX12_judge_42 rfl ?_
      refine Ex_istore (L2 := [_, _, _, _, _, _, _, _]) dX12_judge_43 rfl rfl rfl ?_
      have hn2 : g2_ 0 = (n : Int) := by rw [e2 _ (by decide) (by decide)]; exact hn
      have h62 : g2_ 6 = mm := by rw [e2 _ (by decide) (by decide)]; exact h6
      have h232 : g2_ 23 = hi := by rw [e2 _ (by decide) (by decide)]; exact h23
      have hσ2 : ∀ j, (6 ≤ j ∧ j ≤ 11) ∨ j = 16 → fuR ρ 15 fo_ j = ρ j := fun j hj => by rw [fuR_ne (by omega)]
      have hpk2 : ∀ i, i < 32 → fuR ρ 15 fo_ 15 i = pk (n, mm, K, F, T, S, C) i := fun i hi => by rw [fuR_at]; exact hpk i hi
      have h332 : g2_ 33 = 0 := by rw [e2 _ (by decide) (by decide)]; rfl
      have hlen : fuR ρ 15 fo_ 10 a = ((rx a).length : Int) := by rw [fuR_ne (by decide)]; exact w2
      by_cases hl0 : (rx a).length = 0
      · refine Ex_iload dX12_judge_45 rfl rfl ?_
        refine Ex_aload_n dX12_judge_47 rfl rfl ?_
        refine Ex_getf dX12_judge_48 rfl (ma0 M3_) rfl rfl rfl ?_
        refine Ex_iload_n dX12_judge_51 rfl rfl ?_
        refine Ex_iald12 (c := a) dX12_judge_52 rfl (ma10 M3_) (by omega) (by omega) ?_
        rw [hlen]
        refine Ex_icmp_ge (t := 124) dX12_judge_53 rfl rfl (by omega) (fun c53 => ?_) (fun c53 => absurd c53 (by omega))
        refine Ex_aload_n dX12_judge_124 rfl rfl ?_
        refine Ex_inv 2 dX12_judge_125 rfl rfl (Or.inl rfl) rfl rfl rfl rfl (ma0 M3_) rfl rfl rfl (Ex_post (x12_closeI M3_ h232 hσ2 hpk2 hB) ?_)
        rintro _ h9 ⟨rfl, y1, y2⟩
        refine Ex_iload dX12_judge_128 rfl rfl ?_
        refine Ex_iret dX12_judge_130 rfl rfl ?_
        rw [hl0]
        exact ⟨rfl, ⟨_, y1, V, h16⟩, (f1_.trans (f2_.trans f3_)).trans y2⟩
      · refine Ex_iload dX12_judge_45 rfl rfl ?_
        refine Ex_aload_n dX12_judge_47 rfl rfl ?_
        refine Ex_getf dX12_judge_48 rfl (ma0 M3_) rfl rfl rfl ?_
        refine Ex_iload_n dX12_judge_51 rfl rfl ?_
        refine Ex_iald12 (c := a) dX12_judge_52 rfl (ma10 M3_) (by omega) (by omega) ?_
        rw [hlen]
        refine Ex_icmp_ge (t := 124) dX12_judge_53 rfl rfl (by omega) (fun c53 => absurd c53 (by omega)) (fun c53 => ?_)
        refine Ex_iload dX12_judge_56 rfl rfl ?_
        refine Ex_if_ge (t := 124) dX12_judge_58 rfl rfl (by omega) (fun c58 => absurd c58 (by omega)) (fun c58 => ?_)
        refine Ex_iload dX12_judge_61 rfl rfl ?_
        refine Ex_if_le (t := 71) dX12_judge_63 rfl rfl (by omega) (fun c63 => ?_) (fun c63 => absurd c63 (by omega))
        obtain ⟨k9, hk9⟩ : ∃ k9, (rx a).length = k9 + 1 := ⟨(rx a).length - 1, by omega⟩
        rw [hk9]
        refine Ex_post (x12_judge_l (σ := ρ) (so := rs a) (xs := rx a) hn6 hK hB (by omega) (by omega) (by omega) w3 k9 0 (mm, 0, T, S, C) _ _ _ _ _ h3_ (by omega) M3_ hn2 h62 h332 h232 hσ2 hpk2 hg (Nat.zero_le _) (by rw [fuR_ne (by decide)]; exact w1.1) hlen (by rw [fuR_ne (by decide)]; exact w4)) ?_
        rintro r1 h1 ⟨rfl, y1, y2⟩
        exact ⟨rfl, ⟨_, y1, V, h16⟩, (f1_.trans (f2_.trans f3_)).trans y2⟩
    · have gw := why_r (hw := hw) (a := a)
      have ea : an_judge hw rs rx n mm K F T S C a c = why hw a := by unfold an_judge; rw [if_pos q]; exact if_neg q1
      rw [ea]
      refine Ex_aload_n dX12_judge_0 rfl rfl ?_
      refine Ex_iconst dX12_judge_1 rfl ?_
      refine Ex_put12 (k0 := 13) (v := 0) dX12_judge_2 rfl (ma0 M) rfl rfl rfl rfl rfl (by omega) rfl ?_
      refine mg0 M ?_
      intro h1_ M1_ f1_
      refine Ex_aload_n dX12_judge_5 rfl rfl ?_
      refine Ex_iload_n dX12_judge_6 rfl rfl ?_
      refine Ex_inv 2 dX12_judge_7 rfl rfl (Or.inl rfl) rfl rfl rfl rfl (ma0 M1_) rfl rfl rfl (Ex_post (x12_isChild M1_ hn hn6 (by omega)) ?_)
      rintro _ _ ⟨rfl, e0⟩
      obtain rfl := Eq.symm e0
      refine Ex_if_eq (t := 21) dX12_judge_10 rfl rfl (by omega) (fun c10 => absurd c10 (by omega)) (fun c10 => ?_)
      refine Ex_aload_n dX12_judge_13 rfl rfl ?_
      refine Ex_iload_n dX12_judge_14 rfl rfl ?_
      refine Ex_inv 2 dX12_judge_15 rfl rfl (Or.inl rfl) rfl rfl rfl rfl (ma0 M1_) rfl rfl rfl (Ex_post (x12_wR M1_ V (by omega)) ?_)
      rintro _ _ ⟨rfl, e0⟩
      obtain rfl := Eq.symm e0
      rw [if_neg (fun z => q1 z.2)]
      refine Ex_goto (t := 22) dX12_judge_18 rfl ?_
      refine Ex_istore_n (L2 := [_, _, _, _, _, _, _, _]) dX12_judge_22 rfl rfl rfl ?_
      refine Ex_iload_n dX12_judge_23 rfl rfl ?_
      refine Ex_if_ge (t := 29) dX12_judge_24 rfl rfl (by omega) (fun c24 => absurd c24 (by omega)) (fun c24 => ?_)
      refine Ex_iload_n dX12_judge_27 rfl rfl ?_
      refine Ex_iret dX12_judge_28 rfl rfl ?_
      exact ⟨rfl, ⟨_, ⟨_, _, _, M1_, hn, h6, h23, fun _ _ => rfl⟩, V, h16⟩, f1_⟩
  · have ea : an_judge hw rs rx n mm K F T S C a c = -1 := by unfold an_judge; exact if_neg q
    rw [ea]
    by_cases q0 : 0 ≤ c ∧ c < (n : Int)
    · have gw1 : why hw a = -1 := by unfold why; exact if_neg (fun z => q ⟨z, q0⟩)
      refine Ex_aload_n dX12_judge_0 rfl rfl ?_
      refine Ex_iconst dX12_judge_1 rfl ?_
      refine Ex_put12 (k0 := 13) (v := 0) dX12_judge_2 rfl (ma0 M) rfl rfl rfl rfl rfl (by omega) rfl ?_
      refine mg0 M ?_
      intro h1_ M1_ f1_
      refine Ex_aload_n dX12_judge_5 rfl rfl ?_
      refine Ex_iload_n dX12_judge_6 rfl rfl ?_
      refine Ex_inv 2 dX12_judge_7 rfl rfl (Or.inl rfl) rfl rfl rfl rfl (ma0 M1_) rfl rfl rfl (Ex_post (x12_isChild M1_ hn hn6 (by omega)) ?_)
      rintro _ _ ⟨rfl, e0⟩
      obtain rfl := Eq.symm e0
      refine Ex_if_eq (t := 21) dX12_judge_10 rfl rfl (by omega) (fun c10 => absurd c10 (by omega)) (fun c10 => ?_)
      refine Ex_aload_n dX12_judge_13 rfl rfl ?_
      refine Ex_iload_n dX12_judge_14 rfl rfl ?_
      refine Ex_inv 2 dX12_judge_15 rfl rfl (Or.inl rfl) rfl rfl rfl rfl (ma0 M1_) rfl rfl rfl (Ex_post (x12_wR M1_ V (by omega)) ?_)
      rintro _ _ ⟨rfl, e0⟩
      obtain rfl := Eq.symm e0
      rw [if_neg (fun z => q ⟨z.1, q0⟩), gw1]
      refine Ex_goto (t := 22) dX12_judge_18 rfl ?_
      refine Ex_istore_n (L2 := [_, _, _, _, _, _, _, _]) dX12_judge_22 rfl rfl rfl ?_
      refine Ex_iload_n dX12_judge_23 rfl rfl ?_
      refine Ex_if_ge (t := 29) dX12_judge_24 rfl rfl (by omega) (fun c24 => absurd c24 (by omega)) (fun c24 => ?_)
      refine Ex_iload_n dX12_judge_27 rfl rfl ?_
      refine Ex_iret dX12_judge_28 rfl rfl ?_
      exact ⟨rfl, ⟨_, ⟨_, _, _, M1_, hn, h6, h23, fun _ _ => rfl⟩, V, h16⟩, f1_⟩
    · refine Ex_aload_n dX12_judge_0 rfl rfl ?_
      refine Ex_iconst dX12_judge_1 rfl ?_
      refine Ex_put12 (k0 := 13) (v := 0) dX12_judge_2 rfl (ma0 M) rfl rfl rfl rfl rfl (by omega) rfl ?_
      refine mg0 M ?_
      intro h1_ M1_ f1_
      refine Ex_aload_n dX12_judge_5 rfl rfl ?_
      refine Ex_iload_n dX12_judge_6 rfl rfl ?_
      refine Ex_inv 2 dX12_judge_7 rfl rfl (Or.inl rfl) rfl rfl rfl rfl (ma0 M1_) rfl rfl rfl (Ex_post (x12_isChild M1_ hn hn6 (by omega)) ?_)
      rintro _ _ ⟨rfl, e0⟩
      obtain rfl := Eq.symm e0
      refine Ex_if_eq (t := 21) dX12_judge_10 rfl rfl (by omega) (fun c10 => ?_) (fun c10 => absurd c10 (by omega))
      refine Ex_iconst dX12_judge_21 rfl ?_
      refine Ex_istore_n (L2 := [_, _, _, _, _, _, _, _]) dX12_judge_22 rfl rfl rfl ?_
      refine Ex_iload_n dX12_judge_23 rfl rfl ?_
      refine Ex_if_ge (t := 29) dX12_judge_24 rfl rfl (by omega) (fun c24 => absurd c24 (by omega)) (fun c24 => ?_)
      refine Ex_iload_n dX12_judge_27 rfl rfl ?_
      refine Ex_iret dX12_judge_28 rfl rfl ?_
      exact ⟨rfl, ⟨_, ⟨_, _, _, M1_, hn, h6, h23, fun _ _ => rfl⟩, V, h16⟩, f1_⟩
def EqI (a b : Int) : Prop := a = b
theorem sdn_i (a : Int) : sdn (i32 a) = i32 (a * 1103515245 + 12345) := by unfold sdn; rw [i32_mul, i32_add]
theorem x12_drawBelow {E : am_E} {d : Nat} {h : Hp} {m : Nat} {g K F T S C : Nat → Int} {ρ : Nat → Nat → Int} {kp : Value} {N : Int}  (M : MAt h m g K F T S C ρ kp) (hB : E.2 ≤ m) (hN : 1 ≤ N ∧ N ≤ 6)  : Ex E d mX12_drawBelow 0 [.ref m, .int (i32 N)] [] h (fun r1 h1 => r1 = some (.int (i32 (dr N (sdn (i32 (g 35)))))) ∧ MAt h1 m (fu g 35 (g 35 * 1103515245 + 12345)) K F T S C ρ kp ∧ Fr h h1 m (m + 23)) := by
  have hmr := msk_r (sdn (i32 (g 35)))
  refine Ex_aload_n dX12_drawBelow_0 rfl rfl ?_
  refine Ex_aload_n dX12_drawBelow_1 rfl rfl ?_
  refine Ex_getf dX12_drawBelow_2 rfl (ma0 M) rfl rfl rfl ?_
  refine Ex_ldc_w (z := 1103515245) dX12_drawBelow_5 rfl rfl ?_
  refine Ex_imul dX12_drawBelow_8 rfl ?_
  refine Ex_sipush dX12_drawBelow_9 rfl (by decide) ?_
  refine Ex_iadd dX12_drawBelow_12 rfl ?_
  refine Ex_put12 (k0 := 35) (v := (g 35 * 1103515245 + 12345)) dX12_drawBelow_13 rfl (ma0 M) rfl rfl rfl rfl rfl (by omega) rfl ?_
  refine mg0 M ?_
  intro h1_ M1_ f1_
  refine Ex_aload_n dX12_drawBelow_16 rfl rfl ?_
  refine Ex_getf dX12_drawBelow_17 rfl (ma0 M1_) rfl rfl rfl ?_
  rw [show (fu g 35 (g 35 * 1103515245 + 12345)) 35 = (g 35 * 1103515245 + 12345) from rfl]
  refine Ex_ldc_w (z := 2147483647) dX12_drawBelow_20 rfl rfl ?_
  refine Ex_iandW dX12_drawBelow_23 rfl ?_
  rw [← sdn_i, msk_ok]
  refine Ex_ldc_w (z := 65536) dX12_drawBelow_24 rfl rfl ?_
  refine Ex_idiv dX12_drawBelow_27 rfl (by omega) (by omega) ?_
  refine Ex_iload_n dX12_drawBelow_28 rfl rfl ?_
  refine Ex_irem dX12_drawBelow_29 rfl (by omega) (by omega) ?_
  refine Ex_iret dX12_drawBelow_30 rfl rfl ?_
  exact ⟨rfl, M1_, f1_⟩
theorem x12_weeks_i {E : am_E} {d m n : Nat} {hi l z0 u st bs wk : Int} {K F : Nat → Int} {ρ : Nat → Nat → Int} {kp : Value} {Q : Option Value → Hp → Prop} (hn0 : 0 < n) (hn6 : n ≤ 6) (hK : ∀ i, i < n → (0 ≤ K i ∧ K i ≤ 7) ∧ (0 ≤ F i ∧ F i ≤ 9)) (hB : E.2 ≤ m) : ∀ (k i : Nat) (mi sw : Int) (sd : Int32) (T S C g : Nat → Int) (v9 v10 : Value) (h : Hp), i + k = 10 → MAt h m g K F T S C ρ kp → g 0 = (n : Int) → g 23 = hi → i32 (g 35) = sd → Rng n T S C → (∀ (g2 : Nat → Int) (va vb : Value) (h2 : Hp), MAt h2 m g2 K F (wkI n K F mi T S C sd sw k).1.2.2.2.2.1 (wkI n K F mi T S C sd sw k).1.2.2.2.2.2.1 (wkI n K F mi T S C sd sw k).1.2.2.2.2.2.2 ρ kp → g2 0 = (n : Int) → g2 23 = hi → i32 (g2 35) = (wkI n K F mi T S C sd sw k).2.1 → Rng n (wkI n K F mi T S C sd sw k).1.2.2.2.2.1 (wkI n K F mi T S C sd sw k).1.2.2.2.2.2.1 (wkI n K F mi T S C sd sw k).1.2.2.2.2.2.2 → Fr h h2 m (m + 23) → Ex E (d + 5) mX12_weeks 147 [.ref m, .int (i32 l), .int (i32 z0), .int (i32 u), .int (i32 st), .int (i32 (wkI n K F mi T S C sd sw k).2.2), .int (i32 bs), .int (i32 wk), .int (i32 10), va, vb] [] h2 Q) → Ex E (d + 5) mX12_weeks 72 [.ref m, .int (i32 l), .int (i32 z0), .int (i32 u), .int (i32 st), .int (i32 sw), .int (i32 bs), .int (i32 wk), .int (i32 (i : Int)), v9, v10] [] h Q := by
  intro k
  induction k with
  | zero =>
    intro i mi sw sd T S C g v9 v10 h hk M hn h23 hsd hg kont
    obtain rfl : i = 10 := by omega
    refine Ex_iload dX12_weeks_72 rfl rfl ?_
    refine Ex_bipush dX12_weeks_74 rfl (by decide) ?_
    refine Ex_icmp_ge (t := 147) dX12_weeks_76 rfl rfl (by omega) (fun c76 => ?_) (fun c76 => absurd c76 (by omega))
    exact kont g _ _ _ M hn h23 hsd hg (Fr.rf _ _ _)
  | succ k ih =>
    intro i mi sw sd T S C g v9 v10 h hk M hn h23 hsd hg kont
    subst hsd
    have hd1 := dr_r (n := (n : Int)) (z := sdn (i32 (g 35))) (by omega)
    have hd2 := dr_r (n := 4) (z := sdn (sdn (i32 (g 35)))) (by omega)
    obtain ⟨c, hcd⟩ := Int.eq_ofNat_of_zero_le hd1.1
    obtain ⟨w, hwd⟩ : ∃ w, w = dr 4 (sdn (sdn (i32 (g 35)))) := ⟨_, rfl⟩
    rw [hcd] at hd1
    rw [← hwd] at hd2
    have hc : c < n := by omega
    have hgc := hg c hc
    have e35 : sdn (i32 (g 35)) = i32 (g 35 * 1103515245 + 12345) := sdn_i _
    have e36 : i32 ((g 35 * 1103515245 + 12345) * 1103515245 + 12345) = sdn (sdn (i32 (g 35))) := by rw [e35, sdn_i]
    have ea : wkI n K F mi T S C (i32 (g 35)) sw (k + 1) = if S c < 7 then wkI n K F (mi + 1) (minT n c w K F T S C) (mnS c w K F T S) (minC n c w K F T S C) (sdn (sdn (i32 (g 35)))) (if mnW c w K F T S = 0 then sw else sw + 1) k else wkI n K F mi T S C (sdn (sdn (i32 (g 35)))) sw k := by rw [hwd]; simp only [wkI, hcd, Int.toNat_natCast]
    rw [ea] at kont
    clear ea
    have hcd9 : EqI (dr (n : Int) (sdn (i32 (g 35)))) (c : Int) := hcd
    have hwd9 : EqI (dr 4 (sdn (sdn (i32 (g 35))))) w := hwd.symm
    clear hcd hwd
    by_cases q : S c < 7
    · rw [if_pos q] at kont
      have rg9 := min_r (way := w) (K := K) (F := F) hg (fun i hi => (hK i hi).2) hc q
      by_cases q1 : w = 2
      · by_cases q2 : sp_needs (K c) (F c) (S c) ≤ T c
        · refine Ex_iload dX12_weeks_72 rfl rfl ?_
          refine Ex_bipush dX12_weeks_74 rfl (by decide) ?_
          refine Ex_icmp_ge (t := 147) dX12_weeks_76 rfl rfl (by omega) (fun c76 => absurd c76 (by omega)) (fun c76 => ?_)
          refine Ex_aload_n dX12_weeks_79 rfl rfl ?_
          refine Ex_aload_n dX12_weeks_80 rfl rfl ?_
          refine Ex_getf dX12_weeks_81 rfl (ma0 M) rfl rfl rfl ?_
          rw [hn]
          refine Ex_inv 2 dX12_weeks_84 rfl rfl (Or.inl rfl) rfl rfl rfl rfl (ma0 M) rfl rfl rfl (Ex_post (x12_drawBelow M hB (by omega)) ?_)
          rintro _ h1_ ⟨rfl, M1_, f1_⟩
          rw [show dr (n : Int) (sdn (i32 (g 35))) = (c : Int) from hcd9]
          refine Ex_istore (L2 := [_, _, _, _, _, _, _, _, _, _, _]) dX12_weeks_87 rfl rfl rfl ?_
          refine Ex_aload_n dX12_weeks_89 rfl rfl ?_
          refine Ex_iconst dX12_weeks_90 rfl ?_
          refine Ex_inv 2 dX12_weeks_91 rfl rfl (Or.inl rfl) rfl rfl rfl rfl (ma0 M1_) rfl rfl rfl (Ex_post (x12_drawBelow M1_ hB (by omega)) ?_)
          rintro _ h2_ ⟨rfl, M2_, f2_⟩
          rw [show (fu g 35 (g 35 * 1103515245 + 12345)) 35 = g 35 * 1103515245 + 12345 from rfl, ← e35, show dr 4 (sdn (sdn (i32 (g 35)))) = w from hwd9]
          refine Ex_istore (L2 := [_, _, _, _, _, _, _, _, _, _, _]) dX12_weeks_94 rfl rfl rfl ?_
          refine Ex_aload_n dX12_weeks_96 rfl rfl ?_
          refine Ex_getf dX12_weeks_97 rfl (ma0 M2_) rfl rfl rfl ?_
          refine Ex_iload dX12_weeks_100 rfl rfl ?_
          refine Ex_iald12 (c := c) dX12_weeks_102 rfl (ma4 M2_) rfl (by omega) ?_
          refine Ex_bipush dX12_weeks_103 rfl (by decide) ?_
          refine Ex_icmp_ge (t := 141) dX12_weeks_105 rfl rfl (by omega) (fun c105 => absurd c105 (by omega)) (fun c105 => ?_)
          refine Ex_iload dX12_weeks_108 rfl rfl ?_
          refine Ex_iload dX12_weeks_110 rfl rfl ?_
          refine Ex_iconst dX12_weeks_112 rfl ?_
          refine Ex_icmp_ne (t := 129) dX12_weeks_113 rfl rfl (by omega) (fun c113 => absurd c113 (by omega)) (fun c113 => ?_)
          refine Ex_aload_n dX12_weeks_116 rfl rfl ?_
          refine Ex_iload dX12_weeks_117 rfl rfl ?_
          refine Ex_inv 2 dX12_weeks_119 rfl rfl (Or.inl rfl) rfl rfl rfl rfl (ma0 M2_) rfl rfl rfl (Ex_post (x12_isReady M2_ hn6 hg hK hc) ?_)
          rintro _ _ ⟨rfl, e0⟩
          obtain rfl := Eq.symm e0
          rw [if_pos ⟨q, q2⟩]
          refine Ex_if_ne (t := 129) dX12_weeks_122 rfl rfl (by omega) (fun c122 => ?_) (fun c122 => absurd c122 (by omega))
          refine Ex_iconst dX12_weeks_129 rfl ?_
          refine Ex_iadd dX12_weeks_130 rfl ?_
          refine Ex_istore (L2 := [_, _, _, _, _, _, _, _, _, _, _]) dX12_weeks_131 rfl rfl rfl ?_
          refine Ex_aload_n dX12_weeks_133 rfl rfl ?_
          refine Ex_iload dX12_weeks_134 rfl rfl ?_
          refine Ex_iload dX12_weeks_136 rfl rfl ?_
          refine Ex_inv 2 dX12_weeks_138 rfl rfl (Or.inl rfl) rfl rfl rfl rfl (ma0 M2_) rfl rfl rfl (Ex_post (x12_goMinute M2_ hn hn6 hg hK hB hc q (by omega)) ?_)
          rintro _ h3_ ⟨rfl, M3_, f3_⟩
          refine Ex_iinc (L2 := [_, _, _, _, _, _, _, _, _, _, _]) dX12_weeks_141 rfl rfl rfl ?_
          refine Ex_goto (t := 72) dX12_weeks_144 rfl ?_
          rw [show mnW c w K F T S = 0 from if_neg (by omega), if_pos rfl] at kont
          rw [Int.add_zero]
          refine ih (i + 1) (mi + 1) _ _ _ _ _ _ _ _ h3_ (by omega) M3_ hn h23 e36 rg9 (fun g2 va vb h2 m1 m2 m3 m4 m5 m6 => ?_)
          exact kont g2 va vb h2 m1 m2 m3 m4 m5 ((f1_.trans (f2_.trans f3_)).trans m6)
        · refine Ex_iload dX12_weeks_72 rfl rfl ?_
          refine Ex_bipush dX12_weeks_74 rfl (by decide) ?_
          refine Ex_icmp_ge (t := 147) dX12_weeks_76 rfl rfl (by omega) (fun c76 => absurd c76 (by omega)) (fun c76 => ?_)
          refine Ex_aload_n dX12_weeks_79 rfl rfl ?_
          refine Ex_aload_n dX12_weeks_80 rfl rfl ?_
          refine Ex_getf dX12_weeks_81 rfl (ma0 M) rfl rfl rfl ?_
          rw [hn]
          refine Ex_inv 2 dX12_weeks_84 rfl rfl (Or.inl rfl) rfl rfl rfl rfl (ma0 M) rfl rfl rfl (Ex_post (x12_drawBelow M hB (by omega)) ?_)
          rintro _ h1_ ⟨rfl, M1_, f1_⟩
          rw [show dr (n : Int) (sdn (i32 (g 35))) = (c : Int) from hcd9]
          refine Ex_istore (L2 := [_, _, _, _, _, _, _, _, _, _, _]) dX12_weeks_87 rfl rfl rfl ?_
          refine Ex_aload_n dX12_weeks_89 rfl rfl ?_
          refine Ex_iconst dX12_weeks_90 rfl ?_
          refine Ex_inv 2 dX12_weeks_91 rfl rfl (Or.inl rfl) rfl rfl rfl rfl (ma0 M1_) rfl rfl rfl (Ex_post (x12_drawBelow M1_ hB (by omega)) ?_)
          rintro _ h2_ ⟨rfl, M2_, f2_⟩
          rw [show (fu g 35 (g 35 * 1103515245 + 12345)) 35 = g 35 * 1103515245 + 12345 from rfl, ← e35, show dr 4 (sdn (sdn (i32 (g 35)))) = w from hwd9]
          refine Ex_istore (L2 := [_, _, _, _, _, _, _, _, _, _, _]) dX12_weeks_94 rfl rfl rfl ?_
          refine Ex_aload_n dX12_weeks_96 rfl rfl ?_
          refine Ex_getf dX12_weeks_97 rfl (ma0 M2_) rfl rfl rfl ?_
          refine Ex_iload dX12_weeks_100 rfl rfl ?_
          refine Ex_iald12 (c := c) dX12_weeks_102 rfl (ma4 M2_) rfl (by omega) ?_
          refine Ex_bipush dX12_weeks_103 rfl (by decide) ?_
          refine Ex_icmp_ge (t := 141) dX12_weeks_105 rfl rfl (by omega) (fun c105 => absurd c105 (by omega)) (fun c105 => ?_)
          refine Ex_iload dX12_weeks_108 rfl rfl ?_
          refine Ex_iload dX12_weeks_110 rfl rfl ?_
          refine Ex_iconst dX12_weeks_112 rfl ?_
          refine Ex_icmp_ne (t := 129) dX12_weeks_113 rfl rfl (by omega) (fun c113 => absurd c113 (by omega)) (fun c113 => ?_)
          refine Ex_aload_n dX12_weeks_116 rfl rfl ?_
          refine Ex_iload dX12_weeks_117 rfl rfl ?_
          refine Ex_inv 2 dX12_weeks_119 rfl rfl (Or.inl rfl) rfl rfl rfl rfl (ma0 M2_) rfl rfl rfl (Ex_post (x12_isReady M2_ hn6 hg hK hc) ?_)
          rintro _ _ ⟨rfl, e0⟩
          obtain rfl := Eq.symm e0
          rw [if_neg (fun z => q2 z.2)]
          refine Ex_if_ne (t := 129) dX12_weeks_122 rfl rfl (by omega) (fun c122 => absurd c122 (by omega)) (fun c122 => ?_)
          refine Ex_iconst dX12_weeks_125 rfl ?_
          refine Ex_goto (t := 130) dX12_weeks_126 rfl ?_
          refine Ex_iadd dX12_weeks_130 rfl ?_
          refine Ex_istore (L2 := [_, _, _, _, _, _, _, _, _, _, _]) dX12_weeks_131 rfl rfl rfl ?_
          refine Ex_aload_n dX12_weeks_133 rfl rfl ?_
          refine Ex_iload dX12_weeks_134 rfl rfl ?_
          refine Ex_iload dX12_weeks_136 rfl rfl ?_
          refine Ex_inv 2 dX12_weeks_138 rfl rfl (Or.inl rfl) rfl rfl rfl rfl (ma0 M2_) rfl rfl rfl (Ex_post (x12_goMinute M2_ hn hn6 hg hK hB hc q (by omega)) ?_)
          rintro _ h3_ ⟨rfl, M3_, f3_⟩
          refine Ex_iinc (L2 := [_, _, _, _, _, _, _, _, _, _, _]) dX12_weeks_141 rfl rfl rfl ?_
          refine Ex_goto (t := 72) dX12_weeks_144 rfl ?_
          rw [show mnW c w K F T S = 1 from if_pos ⟨q1, by omega⟩, if_neg (by decide)] at kont
          refine ih (i + 1) (mi + 1) _ _ _ _ _ _ _ _ h3_ (by omega) M3_ hn h23 e36 rg9 (fun g2 va vb h2 m1 m2 m3 m4 m5 m6 => ?_)
          exact kont g2 va vb h2 m1 m2 m3 m4 m5 ((f1_.trans (f2_.trans f3_)).trans m6)
      · refine Ex_iload dX12_weeks_72 rfl rfl ?_
        refine Ex_bipush dX12_weeks_74 rfl (by decide) ?_
        refine Ex_icmp_ge (t := 147) dX12_weeks_76 rfl rfl (by omega) (fun c76 => absurd c76 (by omega)) (fun c76 => ?_)
        refine Ex_aload_n dX12_weeks_79 rfl rfl ?_
        refine Ex_aload_n dX12_weeks_80 rfl rfl ?_
        refine Ex_getf dX12_weeks_81 rfl (ma0 M) rfl rfl rfl ?_
        rw [hn]
        refine Ex_inv 2 dX12_weeks_84 rfl rfl (Or.inl rfl) rfl rfl rfl rfl (ma0 M) rfl rfl rfl (Ex_post (x12_drawBelow M hB (by omega)) ?_)
        rintro _ h1_ ⟨rfl, M1_, f1_⟩
        rw [show dr (n : Int) (sdn (i32 (g 35))) = (c : Int) from hcd9]
        refine Ex_istore (L2 := [_, _, _, _, _, _, _, _, _, _, _]) dX12_weeks_87 rfl rfl rfl ?_
        refine Ex_aload_n dX12_weeks_89 rfl rfl ?_
        refine Ex_iconst dX12_weeks_90 rfl ?_
        refine Ex_inv 2 dX12_weeks_91 rfl rfl (Or.inl rfl) rfl rfl rfl rfl (ma0 M1_) rfl rfl rfl (Ex_post (x12_drawBelow M1_ hB (by omega)) ?_)
        rintro _ h2_ ⟨rfl, M2_, f2_⟩
        rw [show (fu g 35 (g 35 * 1103515245 + 12345)) 35 = g 35 * 1103515245 + 12345 from rfl, ← e35, show dr 4 (sdn (sdn (i32 (g 35)))) = w from hwd9]
        refine Ex_istore (L2 := [_, _, _, _, _, _, _, _, _, _, _]) dX12_weeks_94 rfl rfl rfl ?_
        refine Ex_aload_n dX12_weeks_96 rfl rfl ?_
        refine Ex_getf dX12_weeks_97 rfl (ma0 M2_) rfl rfl rfl ?_
        refine Ex_iload dX12_weeks_100 rfl rfl ?_
        refine Ex_iald12 (c := c) dX12_weeks_102 rfl (ma4 M2_) rfl (by omega) ?_
        refine Ex_bipush dX12_weeks_103 rfl (by decide) ?_
        refine Ex_icmp_ge (t := 141) dX12_weeks_105 rfl rfl (by omega) (fun c105 => absurd c105 (by omega)) (fun c105 => ?_)
        refine Ex_iload dX12_weeks_108 rfl rfl ?_
        refine Ex_iload dX12_weeks_110 rfl rfl ?_
        refine Ex_iconst dX12_weeks_112 rfl ?_
        refine Ex_icmp_ne (t := 129) dX12_weeks_113 rfl rfl (by omega) (fun c113 => ?_) (fun c113 => absurd c113 (by omega))
        refine Ex_iconst dX12_weeks_129 rfl ?_
        refine Ex_iadd dX12_weeks_130 rfl ?_
        refine Ex_istore (L2 := [_, _, _, _, _, _, _, _, _, _, _]) dX12_weeks_131 rfl rfl rfl ?_
        refine Ex_aload_n dX12_weeks_133 rfl rfl ?_
        refine Ex_iload dX12_weeks_134 rfl rfl ?_
        refine Ex_iload dX12_weeks_136 rfl rfl ?_
        refine Ex_inv 2 dX12_weeks_138 rfl rfl (Or.inl rfl) rfl rfl rfl rfl (ma0 M2_) rfl rfl rfl (Ex_post (x12_goMinute M2_ hn hn6 hg hK hB hc q (by omega)) ?_)
        rintro _ h3_ ⟨rfl, M3_, f3_⟩
        refine Ex_iinc (L2 := [_, _, _, _, _, _, _, _, _, _, _]) dX12_weeks_141 rfl rfl rfl ?_
        refine Ex_goto (t := 72) dX12_weeks_144 rfl ?_
        rw [show mnW c w K F T S = 0 from if_neg (fun z => q1 z.1), if_pos rfl] at kont
        rw [Int.add_zero]
        refine ih (i + 1) (mi + 1) _ _ _ _ _ _ _ _ h3_ (by omega) M3_ hn h23 e36 rg9 (fun g2 va vb h2 m1 m2 m3 m4 m5 m6 => ?_)
        exact kont g2 va vb h2 m1 m2 m3 m4 m5 ((f1_.trans (f2_.trans f3_)).trans m6)
    · rw [if_neg q] at kont
      refine Ex_iload dX12_weeks_72 rfl rfl ?_
      refine Ex_bipush dX12_weeks_74 rfl (by decide) ?_
      refine Ex_icmp_ge (t := 147) dX12_weeks_76 rfl rfl (by omega) (fun c76 => absurd c76 (by omega)) (fun c76 => ?_)
      refine Ex_aload_n dX12_weeks_79 rfl rfl ?_
      refine Ex_aload_n dX12_weeks_80 rfl rfl ?_
      refine Ex_getf dX12_weeks_81 rfl (ma0 M) rfl rfl rfl ?_
      rw [hn]
      refine Ex_inv 2 dX12_weeks_84 rfl rfl (Or.inl rfl) rfl rfl rfl rfl (ma0 M) rfl rfl rfl (Ex_post (x12_drawBelow M hB (by omega)) ?_)
      rintro _ h1_ ⟨rfl, M1_, f1_⟩
      rw [show dr (n : Int) (sdn (i32 (g 35))) = (c : Int) from hcd9]
      refine Ex_istore (L2 := [_, _, _, _, _, _, _, _, _, _, _]) dX12_weeks_87 rfl rfl rfl ?_
      refine Ex_aload_n dX12_weeks_89 rfl rfl ?_
      refine Ex_iconst dX12_weeks_90 rfl ?_
      refine Ex_inv 2 dX12_weeks_91 rfl rfl (Or.inl rfl) rfl rfl rfl rfl (ma0 M1_) rfl rfl rfl (Ex_post (x12_drawBelow M1_ hB (by omega)) ?_)
      rintro _ h2_ ⟨rfl, M2_, f2_⟩
      rw [show (fu g 35 (g 35 * 1103515245 + 12345)) 35 = g 35 * 1103515245 + 12345 from rfl, ← e35, show dr 4 (sdn (sdn (i32 (g 35)))) = w from hwd9]
      refine Ex_istore (L2 := [_, _, _, _, _, _, _, _, _, _, _]) dX12_weeks_94 rfl rfl rfl ?_
      refine Ex_aload_n dX12_weeks_96 rfl rfl ?_
      refine Ex_getf dX12_weeks_97 rfl (ma0 M2_) rfl rfl rfl ?_
      refine Ex_iload dX12_weeks_100 rfl rfl ?_
      refine Ex_iald12 (c := c) dX12_weeks_102 rfl (ma4 M2_) rfl (by omega) ?_
      refine Ex_bipush dX12_weeks_103 rfl (by decide) ?_
      refine Ex_icmp_ge (t := 141) dX12_weeks_105 rfl rfl (by omega) (fun c105 => ?_) (fun c105 => absurd c105 (by omega))
      refine Ex_iinc (L2 := [_, _, _, _, _, _, _, _, _, _, _]) dX12_weeks_141 rfl rfl rfl ?_
      refine Ex_goto (t := 72) dX12_weeks_144 rfl ?_
      refine ih (i + 1) mi _ _ _ _ _ _ _ _ h2_ (by omega) M2_ hn h23 e36 hg (fun g2 va vb h2 m1 m2 m3 m4 m5 m6 => ?_)
      exact kont g2 va vb h2 m1 m2 m3 m4 m5 ((f1_.trans f2_).trans m6)
theorem x12_weeks_o {E : am_E} {d m n : Nat} {mm hi l z0 u : Int} {K F T S C : Nat → Int} {ρ σ : Nat → Nat → Int} (hn0 : 0 < n) (hn6 : n ≤ 6) (hg : Rng n T S C) (hK : ∀ i, i < n → (0 ≤ K i ∧ K i ≤ 7) ∧ (0 ≤ F i ∧ F i ≤ 9)) (hB : E.2 ≤ m) (hl : 1 ≤ l ∧ l ≤ 20) (hu : 0 ≤ u ∧ u ≤ 1) (hσ : ∀ j, (6 ≤ j ∧ j ≤ 11) ∨ j = 16 → ρ j = σ j) (hpk : ∀ i, i < 32 → ρ 15 i = pk (n, mm, K, F, T, S, C) i) : ∀ (k : Nat) (wk st sw : Int) (sd : Int32) (g : Nat → Int) (kp v8 v9 v10 : Value) (h : Hp), wk + k = l → 0 ≤ wk → MAt h m g K F T S C ρ kp → g 0 = (n : Int) → g 6 = mm → g 23 = hi → i32 (g 35) = sd → Ex E (d + 5) mX12_weeks 63 [.ref m, .int (i32 l), .int (i32 z0), .int (i32 u), .int (i32 st), .int (i32 sw), .int (i32 (sm S 0 n)), .int (i32 wk), v8, v9, v10] [] h (fun r1 h1 => r1 = some (.int (i32 (if u = 0 then (wkO n K F mm T S C sd st sw k).1 else (wkO n K F mm T S C sd st sw k).2))) ∧ MI h1 m (n, mm, K, F, T, S, C) hi σ ∧ Fr h h1 m (m + 23)) := by
  intro k
  induction k with
  | zero =>
    intro wk st sw sd g kp v8 v9 v10 h hk hwk M hn h6 h23 hsd
    by_cases q : u = 0
    · refine Ex_iload dX12_weeks_63 rfl rfl ?_
      refine Ex_iload_n dX12_weeks_65 rfl rfl ?_
      refine Ex_icmp_ge (t := 169) dX12_weeks_66 rfl rfl (by omega) (fun c66 => ?_) (fun c66 => absurd c66 (by omega))
      refine Ex_iload_n dX12_weeks_169 rfl rfl ?_
      refine Ex_if_ne (t := 178) dX12_weeks_170 rfl rfl (by omega) (fun c170 => absurd c170 (by omega)) (fun c170 => ?_)
      refine Ex_iload dX12_weeks_173 rfl rfl ?_
      refine Ex_goto (t := 180) dX12_weeks_175 rfl ?_
      refine Ex_iret dX12_weeks_180 rfl rfl ?_
      exact ⟨ri (by rw [if_pos q]; rfl), ⟨_, _, _, M, hn, h6, h23, hσ⟩, (Fr.rf _ _ _)⟩
    · refine Ex_iload dX12_weeks_63 rfl rfl ?_
      refine Ex_iload_n dX12_weeks_65 rfl rfl ?_
      refine Ex_icmp_ge (t := 169) dX12_weeks_66 rfl rfl (by omega) (fun c66 => ?_) (fun c66 => absurd c66 (by omega))
      refine Ex_iload_n dX12_weeks_169 rfl rfl ?_
      refine Ex_if_ne (t := 178) dX12_weeks_170 rfl rfl (by omega) (fun c170 => ?_) (fun c170 => absurd c170 (by omega))
      refine Ex_iload dX12_weeks_178 rfl rfl ?_
      refine Ex_iret dX12_weeks_180 rfl rfl ?_
      exact ⟨ri (by rw [if_neg q]; rfl), ⟨_, _, _, M, hn, h6, h23, hσ⟩, (Fr.rf _ _ _)⟩
  | succ k ih =>
    intro wk st sw sd g kp v8 v9 v10 h hk hwk M hn h6 h23 hsd
    refine Ex_iload dX12_weeks_63 rfl rfl ?_
    refine Ex_iload_n dX12_weeks_65 rfl rfl ?_
    refine Ex_icmp_ge (t := 169) dX12_weeks_66 rfl rfl (by omega) (fun c66 => absurd c66 (by omega)) (fun c66 => ?_)
    refine Ex_iconst dX12_weeks_69 rfl ?_
    refine Ex_istore (L2 := [_, _, _, _, _, _, _, _, _, _, _]) dX12_weeks_70 rfl rfl rfl ?_
    refine x12_weeks_i hn0 hn6 hK hB 10 0 mm sw sd _ _ _ _ _ _ _ (by omega) M hn h23 hsd hg (fun g2 va vb h2 m1 m2 m3 m4 m5 m6 => ?_)
    refine Ex_iload dX12_weeks_147 rfl rfl ?_
    refine Ex_aload_n dX12_weeks_149 rfl rfl ?_
    refine Ex_inv 2 dX12_weeks_150 rfl rfl (Or.inl rfl) rfl rfl rfl rfl (ma0 m1) rfl rfl rfl (Ex_post (x12_allSteps m1 m2 hn6 m5) ?_)
    rintro _ _ ⟨rfl, e0⟩
    obtain rfl := Eq.symm e0
    refine Ex_iload dX12_weeks_153 rfl rfl ?_
    refine Ex_isub dX12_weeks_155 rfl ?_
    refine Ex_iadd dX12_weeks_156 rfl ?_
    refine Ex_istore (L2 := [_, _, _, _, _, _, _, _, _, _, _]) dX12_weeks_157 rfl rfl rfl ?_
    refine Ex_aload_n dX12_weeks_159 rfl rfl ?_
    refine Ex_inv 2 dX12_weeks_160 rfl rfl (Or.inl rfl) rfl rfl rfl rfl (ma0 m1) rfl rfl rfl (Ex_post (x12_close m1 hpk hB) ?_)
    rintro _ h51_ ⟨rfl, ⟨g3, M51_, ⟨g30, g36⟩, eg3⟩, f51_⟩
    refine Ex_iinc (L2 := [_, _, _, _, _, _, _, _, _, _, _]) dX12_weeks_163 rfl rfl rfl ?_
    refine Ex_goto (t := 63) dX12_weeks_166 rfl ?_
    refine Ex_post (ih (wk + 1) _ _ (wkI n K F mm T S C sd sw 10).2.1 _ _ _ _ _ h51_ (by omega) (by omega) M51_ g30 g36 (by rw [eg3 _ (by decide) (by decide) (by decide) (by decide)]; exact m3) (by rw [eg3 _ (by decide) (by decide) (by decide) (by decide)]; exact m4)) ?_
    rintro r1 h1 ⟨rfl, y1, y2⟩
    exact ⟨rfl, y1, (m6.trans f51_).trans y2⟩
theorem x12_weeks {E : am_E} {d : Nat} {h : Hp} {m n : Nat} {mm hi : Int} {K F T S C : Nat → Int} {σ : Nat → Nat → Int} {l z u : Int}  (I : MI h m (n, mm, K, F, T, S, C) hi σ) (hn6 : n ≤ 6) (hg : Rng n T S C) (hK : ∀ i, i < n → (0 ≤ K i ∧ K i ≤ 7) ∧ (0 ≤ F i ∧ F i ≤ 9)) (hB : E.2 ≤ m) (hl : (-2147483648 ≤ l ∧ l ≤ 2147483647)) (hu : (-2147483648 ≤ u ∧ u ≤ 2147483647))  : Ex E (d + 5) mX12_weeks 0 [.ref m, .int (i32 l), .int (i32 z), .int (i32 u), .retAddr 0, .retAddr 0, .retAddr 0, .retAddr 0, .retAddr 0, .retAddr 0, .retAddr 0] [] h (fun r1 h1 => r1 = some (.int (i32 (an_weeks n mm K F T S C l (i32 z) u))) ∧ MI h1 m (n, mm, K, F, T, S, C) hi σ ∧ Fr h h1 m (m + 23)) := by
  obtain ⟨g, ρ, kp, M, hn, h6, h23, hσ⟩ := I
  have M : MAt h m g K F T S C ρ kp := M
  have hn : g 0 = (n : Int) := hn
  have h6 : g 6 = mm := h6
  by_cases q : (1 ≤ l ∧ l ≤ 20) ∧ (0 ≤ u ∧ u ≤ 1)
  · by_cases q1 : n = 0
    · have ea : an_weeks n mm K F T S C l (i32 z) u = -3 := by unfold an_weeks; rw [if_pos q]; exact if_pos q1
      rw [ea]
      refine Ex_aload_n dX12_weeks_0 rfl rfl ?_
      refine Ex_iconst dX12_weeks_1 rfl ?_
      refine Ex_put12 (k0 := 13) (v := 0) dX12_weeks_2 rfl (ma0 M) rfl rfl rfl rfl rfl (by omega) rfl ?_
      refine mg0 M ?_
      intro h1_ M1_ f1_
      refine Ex_iload_n dX12_weeks_5 rfl rfl ?_
      refine Ex_i2l dX12_weeks_6 rfl (by omega) ?_
      refine Ex_lconst (z := 1) dX12_weeks_7 rfl (by decide) ?_
      refine Ex_ldc2 (z := 20) dX12_weeks_8 rfl rfl ?_
      refine Ex_stat 0 dX12_weeks_11 rfl rfl (Or.inl rfl) rfl rfl rfl rfl rfl rfl (Ex_post (x12_in (by omega) (by omega) (by omega)) ?_)
      rintro _ _ ⟨rfl, e0⟩
      obtain rfl := Eq.symm e0
      refine Ex_if_eq (t := 27) dX12_weeks_14 rfl rfl (by omega) (fun c14 => absurd c14 (by omega)) (fun c14 => ?_)
      refine Ex_iload_n dX12_weeks_17 rfl rfl ?_
      refine Ex_i2l dX12_weeks_18 rfl (by omega) ?_
      refine Ex_lconst (z := 0) dX12_weeks_19 rfl (by decide) ?_
      refine Ex_lconst (z := 1) dX12_weeks_20 rfl (by decide) ?_
      refine Ex_stat 0 dX12_weeks_21 rfl rfl (Or.inl rfl) rfl rfl rfl rfl rfl rfl (Ex_post (x12_in (by omega) (by omega) (by omega)) ?_)
      rintro _ _ ⟨rfl, e0⟩
      obtain rfl := Eq.symm e0
      refine Ex_if_ne (t := 29) dX12_weeks_24 rfl rfl (by omega) (fun c24 => ?_) (fun c24 => absurd c24 (by omega))
      refine Ex_aload_n dX12_weeks_29 rfl rfl ?_
      refine Ex_getf dX12_weeks_30 rfl (ma0 M1_) rfl rfl rfl ?_
      rw [show (fu g 13 0) 0 = g 0 from rfl]
      refine Ex_if_ne (t := 39) dX12_weeks_33 rfl rfl (by omega) (fun c33 => absurd c33 (by omega)) (fun c33 => ?_)
      refine Ex_bipush dX12_weeks_36 rfl (by decide) ?_
      refine Ex_iret dX12_weeks_38 rfl rfl ?_
      exact ⟨rfl, ⟨_, _, _, M1_, hn, h6, h23, hσ⟩, f1_⟩
    · have ea : an_weeks n mm K F T S C l (i32 z) u = if u = 0 then (wkO n K F mm T S C (i32 z) 0 0 l.toNat).1 else (wkO n K F mm T S C (i32 z) 0 0 l.toNat).2 := by unfold an_weeks; rw [if_pos q]; exact if_neg q1
      rw [ea]
      refine Ex_aload_n dX12_weeks_0 rfl rfl ?_
      refine Ex_iconst dX12_weeks_1 rfl ?_
      refine Ex_put12 (k0 := 13) (v := 0) dX12_weeks_2 rfl (ma0 M) rfl rfl rfl rfl rfl (by omega) rfl ?_
      refine mg0 M ?_
      intro h1_ M1_ f1_
      refine Ex_iload_n dX12_weeks_5 rfl rfl ?_
      refine Ex_i2l dX12_weeks_6 rfl (by omega) ?_
      refine Ex_lconst (z := 1) dX12_weeks_7 rfl (by decide) ?_
      refine Ex_ldc2 (z := 20) dX12_weeks_8 rfl rfl ?_
      refine Ex_stat 0 dX12_weeks_11 rfl rfl (Or.inl rfl) rfl rfl rfl rfl rfl rfl (Ex_post (x12_in (by omega) (by omega) (by omega)) ?_)
      rintro _ _ ⟨rfl, e0⟩
      obtain rfl := Eq.symm e0
      refine Ex_if_eq (t := 27) dX12_weeks_14 rfl rfl (by omega) (fun c14 => absurd c14 (by omega)) (fun c14 => ?_)
      refine Ex_iload_n dX12_weeks_17 rfl rfl ?_
      refine Ex_i2l dX12_weeks_18 rfl (by omega) ?_
      refine Ex_lconst (z := 0) dX12_weeks_19 rfl (by decide) ?_
      refine Ex_lconst (z := 1) dX12_weeks_20 rfl (by decide) ?_
      refine Ex_stat 0 dX12_weeks_21 rfl rfl (Or.inl rfl) rfl rfl rfl rfl rfl rfl (Ex_post (x12_in (by omega) (by omega) (by omega)) ?_)
      rintro _ _ ⟨rfl, e0⟩
      obtain rfl := Eq.symm e0
      refine Ex_if_ne (t := 29) dX12_weeks_24 rfl rfl (by omega) (fun c24 => ?_) (fun c24 => absurd c24 (by omega))
      refine Ex_aload_n dX12_weeks_29 rfl rfl ?_
      refine Ex_getf dX12_weeks_30 rfl (ma0 M1_) rfl rfl rfl ?_
      rw [show (fu g 13 0) 0 = g 0 from rfl]
      refine Ex_if_ne (t := 39) dX12_weeks_33 rfl rfl (by omega) (fun c33 => ?_) (fun c33 => absurd c33 (by omega))
      refine Ex_aload_n dX12_weeks_39 rfl rfl ?_
      refine Ex_iload_n dX12_weeks_40 rfl rfl ?_
      refine Ex_put12 (k0 := 35) (v := z) dX12_weeks_41 rfl (ma0 M1_) rfl rfl rfl rfl rfl (by omega) rfl ?_
      refine mg0 M1_ ?_
      intro h2_ M2_ f2_
      refine Ex_iconst dX12_weeks_44 rfl ?_
      refine Ex_istore (L2 := [_, _, _, _, _, _, _, _, _, _, _]) dX12_weeks_45 rfl rfl rfl ?_
      refine Ex_iconst dX12_weeks_47 rfl ?_
      refine Ex_istore (L2 := [_, _, _, _, _, _, _, _, _, _, _]) dX12_weeks_48 rfl rfl rfl ?_
      refine Ex_aload_n dX12_weeks_50 rfl rfl ?_
      refine Ex_inv 2 dX12_weeks_51 rfl rfl (Or.inl rfl) rfl rfl rfl rfl (ma0 M2_) rfl rfl rfl (Ex_post (x12_allSteps M2_ hn hn6 hg) ?_)
      rintro _ _ ⟨rfl, e0⟩
      obtain rfl := Eq.symm e0
      refine Ex_istore (L2 := [_, _, _, _, _, _, _, _, _, _, _]) dX12_weeks_54 rfl rfl rfl ?_
      refine Ex_aload_n dX12_weeks_56 rfl rfl ?_
      refine Ex_inv 2 dX12_weeks_57 rfl rfl (Or.inl rfl) rfl rfl rfl rfl (ma0 M2_) rfl rfl rfl (Ex_post (x12_open M2_ hn h6 hB) ?_)
      rintro _ h3_ ⟨rfl, ⟨g2_, fo_, M3_, hpk, e2⟩, f3_⟩
      refine Ex_iconst dX12_weeks_60 rfl ?_
      refine Ex_istore (L2 := [_, _, _, _, _, _, _, _, _, _, _]) dX12_weeks_61 rfl rfl rfl ?_
      have hn2 : g2_ 0 = (n : Int) := by rw [e2 _ (by decide) (by decide)]; exact hn
      have h62 : g2_ 6 = mm := by rw [e2 _ (by decide) (by decide)]; exact h6
      have h232 : g2_ 23 = hi := by rw [e2 _ (by decide) (by decide)]; exact h23
      have hσ2 : ∀ j, (6 ≤ j ∧ j ≤ 11) ∨ j = 16 → fuR ρ 15 fo_ j = σ j := fun j hj => by rw [fuR_ne (by omega)]; exact hσ j hj
      have hpk2 : ∀ i, i < 32 → fuR ρ 15 fo_ 15 i = pk (n, mm, K, F, T, S, C) i := fun i hi => by rw [fuR_at]; exact hpk i hi
      refine Ex_post (x12_weeks_o (by omega) hn6 hg hK hB q.1 q.2 hσ2 hpk2 l.toNat 0 0 0 (i32 z) _ _ _ _ _ h3_ (by omega) (by omega) M3_ hn2 h62 h232 (by rw [e2 _ (by decide) (by decide)]; rfl)) ?_
      rintro r1 h1 ⟨rfl, y1, y2⟩
      exact ⟨rfl, y1, (f1_.trans (f2_.trans f3_)).trans y2⟩
  · have ea : an_weeks n mm K F T S C l (i32 z) u = -1 := by unfold an_weeks; exact if_neg q
    rw [ea]
    refine Ex_aload_n dX12_weeks_0 rfl rfl ?_
    refine Ex_iconst dX12_weeks_1 rfl ?_
    refine Ex_put12 (k0 := 13) (v := 0) dX12_weeks_2 rfl (ma0 M) rfl rfl rfl rfl rfl (by omega) rfl ?_
    refine mg0 M ?_
    intro h1_ M1_ f1_
    refine Ex_iload_n dX12_weeks_5 rfl rfl ?_
    refine Ex_i2l dX12_weeks_6 rfl (by omega) ?_
    refine Ex_lconst (z := 1) dX12_weeks_7 rfl (by decide) ?_
    refine Ex_ldc2 (z := 20) dX12_weeks_8 rfl rfl ?_
    refine Ex_stat 0 dX12_weeks_11 rfl rfl (Or.inl rfl) rfl rfl rfl rfl rfl rfl (Ex_post (x12_in (by omega) (by omega) (by omega)) ?_)
    rintro _ _ ⟨rfl, e0⟩
    obtain rfl := Eq.symm e0
    refine Ex_if_eq (t := 27) dX12_weeks_14 rfl rfl (by omega) (fun c14 => ?_) (fun c14 => ?_)
    · refine Ex_iconst dX12_weeks_27 rfl ?_
      refine Ex_iret dX12_weeks_28 rfl rfl ?_
      exact ⟨rfl, ⟨_, _, _, M1_, hn, h6, h23, hσ⟩, f1_⟩
    · refine Ex_iload_n dX12_weeks_17 rfl rfl ?_
      refine Ex_i2l dX12_weeks_18 rfl (by omega) ?_
      refine Ex_lconst (z := 0) dX12_weeks_19 rfl (by decide) ?_
      refine Ex_lconst (z := 1) dX12_weeks_20 rfl (by decide) ?_
      refine Ex_stat 0 dX12_weeks_21 rfl rfl (Or.inl rfl) rfl rfl rfl rfl rfl rfl (Ex_post (x12_in (by omega) (by omega) (by omega)) ?_)
      rintro _ _ ⟨rfl, e0⟩
      obtain rfl := Eq.symm e0
      refine Ex_if_ne (t := 29) dX12_weeks_24 rfl rfl (by omega) (fun c24 => ?_) (fun c24 => ?_)
      · exfalso; omega
      · refine Ex_iconst dX12_weeks_27 rfl ?_
        refine Ex_iret dX12_weeks_28 rfl rfl ?_
        exact ⟨rfl, ⟨_, _, _, M1_, hn, h6, h23, hσ⟩, f1_⟩
