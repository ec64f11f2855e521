/-! the reference: MOST STEPS (by program: wip/whole/spec_sf.py) -/
theorem lfJ_no {φ : Nat → RS → Int × Int → Int × Int} {X : RS} : ∀ (k j : Nat) (s : Int × Int), nch X.2.2.2.2.2.1 j k = -4 → lfJ φ X j s k = s
  | 0, j, s, _ => rfl
  | k + 1, j, s, h => by
    simp only [nch] at h
    by_cases q : X.2.2.2.2.2.1 (j / 3) = 7
    · rw [if_pos q] at h
      have e : lfJ φ X j s (k + 1) = lfJ φ X (j + 1) s k := if_pos q
      rw [e]
      exact lfJ_no k (j + 1) s h
    · rw [if_neg q] at h; omega
theorem lfJ_go {φ : Nat → RS → Int × Int → Int × Int} {X : RS} {b : Nat} : ∀ (k j : Nat) (s : Int × Int), nch X.2.2.2.2.2.1 j k = (b : Int) → lfJ φ X j s k = lfJ φ X (b + 1) (φ b (rsM (b / 3) ((b % 3 : Nat) : Int) X) s) (j + k - (b + 1))
  | 0, j, s, h => by simp only [nch] at h; omega
  | k + 1, j, s, h => by
    simp only [nch] at h
    by_cases q : X.2.2.2.2.2.1 (j / 3) = 7
    · rw [if_pos q] at h
      have e : lfJ φ X j s (k + 1) = lfJ φ X (j + 1) s k := if_pos q
      rw [e, lfJ_go k (j + 1) s h, show j + 1 + k - (b + 1) = j + (k + 1) - (b + 1) by omega]
    · rw [if_neg q] at h
      have eb : b = j := by omega
      subst eb
      have e : lfJ φ X b s (k + 1) = lfJ φ X (b + 1) (φ b (rsM (b / 3) ((b % 3 : Nat) : Int) X) s) k := if_neg q
      rw [e, show b + (k + 1) - (b + 1) = k by omega]
/-- what the search keeps at a depth -/
def MK (g g2 : Nat → Int) (ρ ρ2 : Nat → Nat → Int) (D : Nat) : Prop := (∀ t, t < 32 * (D + 1) → ρ2 18 t = ρ 18 t) ∧ (∀ e, e < D → ρ2 20 e = ρ 20 e) ∧ (∀ r, r ≠ 18 → r ≠ 19 → r ≠ 20 → ρ2 r = ρ r) ∧ (∀ t, t ≠ 0 → t ≠ 6 → t ≠ 24 → t ≠ 25 → t ≠ 31 → t ≠ 32 → g2 t = g t)
theorem MK.trans {g g2 g3 : Nat → Int} {ρ ρ2 ρ3 : Nat → Nat → Int} {D D2 : Nat} (a : MK g g2 ρ ρ2 D) (b : MK g2 g3 ρ2 ρ3 D2) (h : D ≤ D2) : MK g g3 ρ ρ3 D := ⟨fun t ht => (b.1 t (by omega)).trans (a.1 t ht), fun e he => (b.2.1 e (by omega)).trans (a.2.1 e he), fun r h1 h2 h3 => (b.2.2.1 r h1 h2 h3).trans (a.2.2.1 r h1 h2 h3), fun t h1 h2 h3 h4 h5 h6 => (b.2.2.2 t h1 h2 h3 h4 h5 h6).trans (a.2.2.2 t h1 h2 h3 h4 h5 h6)⟩
theorem lf_b {code : Int} {l : Nat} {X : RS} {s : Int × Int} (hX : RX X) (hs : -1 ≤ s.1 ∧ s.1 ≤ 100) : -1 ≤ (lf l code X s).1 ∧ (lf l code X s).1 ≤ 100 := by
  rw [lf_rl l X s hX hs.1, rl_ms l X hX]
  have := ms_r l X hX
  unfold up2
  split
  · show -1 ≤ ms l X ∧ ms l X ≤ 100; omega
  · exact hs
theorem x12_most_l {E : am_E} {d m n l : Nat} {K F : Nat → Int} {Q : Option Value → Hp → Prop} (hn6 : n ≤ 6) (hK : ∀ i, i < n → (0 ≤ K i ∧ K i ≤ 7) ∧ (0 ≤ F i ∧ F i ≤ 9)) (hB : E.2 ≤ m) (hl3 : l ≤ 3) : ∀ (L D : Nat), D + L + 1 = l → ∀ (k j c0 : Nat) (mm : Int) (T S C : Nat → Int) (g : Nat → Int) (ρ : Nat → Nat → Int) (kp : Value) (K2 F2 T2 S2 C2 : Nat → Int) (h : Hp) (v3 : Value), c0 ≤ 20 → 3 * n ≤ j + k → j ≤ 3 * n → Rng n T S C → MAt h m g K2 F2 T2 S2 C2 ρ kp → (∀ t, t < 32 → ρ 18 (32 * D + t) = pk (n, mm, K, F, T, S, C) t) → ρ 20 D = (j : Int) - 1 → (0 < D → ρ 20 0 = (c0 : Int)) → (-1 ≤ g 31 ∧ g 31 ≤ 100) → (∀ (h2 : Hp) (g2 : Nat → Int) (ρ2 : Nat → Nat → Int) (kp2 : Value) (K3 F3 T3 S3 C3 : Nat → Int), MAt h2 m g2 K3 F3 T3 S3 C3 ρ2 kp2 → (g2 31, g2 32) = lfJ (fun j => lf L (cd (if D = 0 then j else c0))) (n, mm, K, F, T, S, C) j (g 31, g 32) (3 * n - j) → MK g g2 ρ ρ2 D → Fr h h2 m (m + 23) → Ex E (d + 5) mX12_layMost 46 [.ref m, .int (i32 (l : Int)), .int (i32 ((D : Int) + -1)), .int (i32 (-4))] [] h2 Q) → Ex E (d + 5) mX12_layMost 46 [.ref m, .int (i32 (l : Int)), .int (i32 (D : Int)), v3] [] h Q := by
  intro L
  induction L with
  | zero =>
    intro D hD k
    induction k with
    | zero =>
      intro j c0 mm T S C g ρ kp K2 F2 T2 S2 C2 h v3 hc0 hk hj hg M hpk hcur h0c h31 kont
      have hnc : nch S j (3 * n - j) = -4 := by rw [show 3 * n - j = 0 by omega]; rfl
      refine Ex_iload_n dX12_layMost_46 rfl rfl ?_
      refine Ex_if_lt (t := 174) dX12_layMost_47 rfl rfl (by omega) (fun c47 => absurd c47 (by omega)) (fun c47 => ?_)
      refine Ex_aload_n dX12_layMost_50 rfl rfl ?_
      refine Ex_iload_n dX12_layMost_51 rfl rfl ?_
      refine Ex_inv 2 dX12_layMost_52 rfl rfl (Or.inl rfl) rfl rfl rfl rfl (ma0 M) rfl rfl rfl (Ex_post (x12_toStage (s := D) M hB (by omega) hpk) ?_)
      rintro _ h1_ ⟨rfl, ⟨gA, ρA, kpA, M1_, ⟨gA0, gA6⟩, eρA, eA⟩, f1_⟩
      have eA20 : ρA 20 D = (j : Int) - 1 := by rw [eρA 20 (by decide)]; exact hcur
      refine Ex_aload_n dX12_layMost_55 rfl rfl ?_
      refine Ex_aload_n dX12_layMost_56 rfl rfl ?_
      refine Ex_getf dX12_layMost_57 rfl (ma0 M1_) rfl rfl rfl ?_
      refine Ex_iload_n dX12_layMost_60 rfl rfl ?_
      refine Ex_iald12 (c := D) dX12_layMost_61 rfl (ma20 M1_) rfl (by omega) ?_
      rw [eA20]
      refine Ex_iconst dX12_layMost_62 rfl ?_
      refine Ex_iadd dX12_layMost_63 rfl ?_
      rw [show (j : Int) - 1 + 1 = (j : Int) by omega]
      refine Ex_inv 2 dX12_layMost_64 rfl rfl (Or.inl rfl) rfl rfl rfl rfl (ma0 M1_) rfl rfl rfl (Ex_post (x12_nextChoice (c := j) M1_ gA0 hn6 hg hj) ?_)
      rintro _ _ ⟨rfl, e0⟩
      obtain rfl := Eq.symm e0
      rw [hnc]
      refine Ex_istore_n (L2 := [_, _, _, _]) dX12_layMost_67 rfl rfl rfl ?_
      refine Ex_aload_n dX12_layMost_68 rfl rfl ?_
      refine Ex_getf dX12_layMost_69 rfl (ma0 M1_) rfl rfl rfl ?_
      refine Ex_iload_n dX12_layMost_72 rfl rfl ?_
      refine Ex_iload_n dX12_layMost_73 rfl rfl ?_
      refine Ex_iast12 (c := D) dX12_layMost_74 rfl (ma20 M1_) rfl (by omega) (by omega) ?_
      refine mg20 M1_ ?_
      intro h2_ M2_ f2_
      refine Ex_iload_n dX12_layMost_75 rfl rfl ?_
      refine Ex_if_ge (t := 85) dX12_layMost_76 rfl rfl (by omega) (fun c76 => absurd c76 (by omega)) (fun c76 => ?_)
      refine Ex_iinc (L2 := [_, _, _, _]) dX12_layMost_79 rfl rfl rfl ?_
      refine Ex_goto (t := 171) dX12_layMost_82 rfl ?_
      refine Ex_goto (t := 46) dX12_layMost_171 rfl ?_
      have a31 : gA 31 = g 31 := eA 31 (by decide) (by decide) (by decide) (by decide)
      have a32 : gA 32 = g 32 := eA 32 (by decide) (by decide) (by decide) (by decide)
      exact kont h2_ gA _ _ _ _ _ _ _ M2_ (by rw [a31, a32]; exact (lfJ_no (3 * n - j) j _ hnc).symm) (⟨fun t _ => by rw [fuR_ne (by decide), eρA 18 (by decide)], fun e he => by rw [fuR_at, fu_ne (by omega), eρA 20 (by decide)], fun r q1 q2 q3 => by rw [fuR_ne q3, eρA r q2], fun t q1 q2 q3 q4 q5 q6 => eA t q3 q4 q1 q2⟩ : MK g gA ρ (fuR ρA 20 (fu (ρA 20) D (-4))) D) (f1_.trans f2_)
    | succ k ih =>
      intro j c0 mm T S C g ρ kp K2 F2 T2 S2 C2 h v3 hc0 hk hj hg M hpk hcur h0c h31 kont
      rcases nch_v (S := S) (3 * n - j) j with hnc | ⟨b, hnc, hb1, hb2, hb3⟩
      · refine Ex_iload_n dX12_layMost_46 rfl rfl ?_
        refine Ex_if_lt (t := 174) dX12_layMost_47 rfl rfl (by omega) (fun c47 => absurd c47 (by omega)) (fun c47 => ?_)
        refine Ex_aload_n dX12_layMost_50 rfl rfl ?_
        refine Ex_iload_n dX12_layMost_51 rfl rfl ?_
        refine Ex_inv 2 dX12_layMost_52 rfl rfl (Or.inl rfl) rfl rfl rfl rfl (ma0 M) rfl rfl rfl (Ex_post (x12_toStage (s := D) M hB (by omega) hpk) ?_)
        rintro _ h1_ ⟨rfl, ⟨gA, ρA, kpA, M1_, ⟨gA0, gA6⟩, eρA, eA⟩, f1_⟩
        have eA20 : ρA 20 D = (j : Int) - 1 := by rw [eρA 20 (by decide)]; exact hcur
        refine Ex_aload_n dX12_layMost_55 rfl rfl ?_
        refine Ex_aload_n dX12_layMost_56 rfl rfl ?_
        refine Ex_getf dX12_layMost_57 rfl (ma0 M1_) rfl rfl rfl ?_
        refine Ex_iload_n dX12_layMost_60 rfl rfl ?_
        refine Ex_iald12 (c := D) dX12_layMost_61 rfl (ma20 M1_) rfl (by omega) ?_
        rw [eA20]
        refine Ex_iconst dX12_layMost_62 rfl ?_
        refine Ex_iadd dX12_layMost_63 rfl ?_
        rw [show (j : Int) - 1 + 1 = (j : Int) by omega]
        refine Ex_inv 2 dX12_layMost_64 rfl rfl (Or.inl rfl) rfl rfl rfl rfl (ma0 M1_) rfl rfl rfl (Ex_post (x12_nextChoice (c := j) M1_ gA0 hn6 hg hj) ?_)
        rintro _ _ ⟨rfl, e0⟩
        obtain rfl := Eq.symm e0
        rw [hnc]
        refine Ex_istore_n (L2 := [_, _, _, _]) dX12_layMost_67 rfl rfl rfl ?_
        refine Ex_aload_n dX12_layMost_68 rfl rfl ?_
        refine Ex_getf dX12_layMost_69 rfl (ma0 M1_) rfl rfl rfl ?_
        refine Ex_iload_n dX12_layMost_72 rfl rfl ?_
        refine Ex_iload_n dX12_layMost_73 rfl rfl ?_
        refine Ex_iast12 (c := D) dX12_layMost_74 rfl (ma20 M1_) rfl (by omega) (by omega) ?_
        refine mg20 M1_ ?_
        intro h2_ M2_ f2_
        refine Ex_iload_n dX12_layMost_75 rfl rfl ?_
        refine Ex_if_ge (t := 85) dX12_layMost_76 rfl rfl (by omega) (fun c76 => absurd c76 (by omega)) (fun c76 => ?_)
        refine Ex_iinc (L2 := [_, _, _, _]) dX12_layMost_79 rfl rfl rfl ?_
        refine Ex_goto (t := 171) dX12_layMost_82 rfl ?_
        refine Ex_goto (t := 46) dX12_layMost_171 rfl ?_
        have a31 : gA 31 = g 31 := eA 31 (by decide) (by decide) (by decide) (by decide)
        have a32 : gA 32 = g 32 := eA 32 (by decide) (by decide) (by decide) (by decide)
        exact kont h2_ gA _ _ _ _ _ _ _ M2_ (by rw [a31, a32]; exact (lfJ_no (3 * n - j) j _ hnc).symm) (⟨fun t _ => by rw [fuR_ne (by decide), eρA 18 (by decide)], fun e he => by rw [fuR_at, fu_ne (by omega), eρA 20 (by decide)], fun r q1 q2 q3 => by rw [fuR_ne q3, eρA r q2], fun t q1 q2 q3 q4 q5 q6 => eA t q3 q4 q1 q2⟩ : MK g gA ρ (fuR ρA 20 (fu (ρA 20) D (-4))) D) (f1_.trans f2_)
      · have hb3c : b / 3 < n := by omega
        have hs7 : S (b / 3) < 7 := by
          have := (hg (b / 3) hb3c).2.1
          omega
        have gm := min_r (K := K) (way := ((b % 3 : Nat) : Int)) hg (fun i hi => (hK i hi).2) hb3c hs7
        obtain ⟨T3, eT3⟩ : ∃ z, z = minT n (b / 3) ((b % 3 : Nat) : Int) K F T S C := ⟨_, rfl⟩
        obtain ⟨S3, eS3⟩ : ∃ z, z = mnS (b / 3) ((b % 3 : Nat) : Int) K F T S := ⟨_, rfl⟩
        obtain ⟨C3, eC3⟩ : ∃ z, z = minC n (b / 3) ((b % 3 : Nat) : Int) K F T S C := ⟨_, rfl⟩
        have eY : rsM (b / 3) ((b % 3 : Nat) : Int) (n, mm, K, F, T, S, C) = (n, mm + 1, K, F, T3, S3, C3) := by rw [eT3, eS3, eC3]; rfl
        rw [← eT3, ← eS3, ← eC3] at gm
        have hYX : RX (n, mm + 1, K, F, T3, S3, C3) := ⟨gm, fun i hi => (hK i hi).2, hn6⟩
        have hst := stp_r hYX
        obtain ⟨cc, ecc⟩ : ∃ z, z = if D = 0 then b else c0 := ⟨_, rfl⟩
        have hcc : cc ≤ 20 := by rw [ecc]; split <;> omega
        have hgo := lfJ_go (φ := fun j => lf 0 (cd (if D = 0 then j else c0))) (X := (n, mm, K, F, T, S, C)) (3 * n - j) j (g 31, g 32) hnc
        rw [eY, ← ecc, show j + (3 * n - j) - (b + 1) = 3 * n - (b + 1) by omega] at hgo
        by_cases qs : g 31 < stp (n, mm + 1, K, F, T3, S3, C3)
        · have qs : g 31 < stp (n, mm + 1, K, F, T3, S3, C3) := qs
          refine Ex_iload_n dX12_layMost_46 rfl rfl ?_
          refine Ex_if_lt (t := 174) dX12_layMost_47 rfl rfl (by omega) (fun c47 => absurd c47 (by omega)) (fun c47 => ?_)
          refine Ex_aload_n dX12_layMost_50 rfl rfl ?_
          refine Ex_iload_n dX12_layMost_51 rfl rfl ?_
          refine Ex_inv 2 dX12_layMost_52 rfl rfl (Or.inl rfl) rfl rfl rfl rfl (ma0 M) rfl rfl rfl (Ex_post (x12_toStage (s := D) M hB (by omega) hpk) ?_)
          rintro _ h1_ ⟨rfl, ⟨gA, ρA, kpA, M1_, ⟨gA0, gA6⟩, eρA, eA⟩, f1_⟩
          have eA20 : ρA 20 D = (j : Int) - 1 := by rw [eρA 20 (by decide)]; exact hcur
          refine Ex_aload_n dX12_layMost_55 rfl rfl ?_
          refine Ex_aload_n dX12_layMost_56 rfl rfl ?_
          refine Ex_getf dX12_layMost_57 rfl (ma0 M1_) rfl rfl rfl ?_
          refine Ex_iload_n dX12_layMost_60 rfl rfl ?_
          refine Ex_iald12 (c := D) dX12_layMost_61 rfl (ma20 M1_) rfl (by omega) ?_
          rw [eA20]
          refine Ex_iconst dX12_layMost_62 rfl ?_
          refine Ex_iadd dX12_layMost_63 rfl ?_
          rw [show (j : Int) - 1 + 1 = (j : Int) by omega]
          refine Ex_inv 2 dX12_layMost_64 rfl rfl (Or.inl rfl) rfl rfl rfl rfl (ma0 M1_) rfl rfl rfl (Ex_post (x12_nextChoice (c := j) M1_ gA0 hn6 hg hj) ?_)
          rintro _ _ ⟨rfl, e0⟩
          obtain rfl := Eq.symm e0
          rw [hnc]
          refine Ex_istore_n (L2 := [_, _, _, _]) dX12_layMost_67 rfl rfl rfl ?_
          refine Ex_aload_n dX12_layMost_68 rfl rfl ?_
          refine Ex_getf dX12_layMost_69 rfl (ma0 M1_) rfl rfl rfl ?_
          refine Ex_iload_n dX12_layMost_72 rfl rfl ?_
          refine Ex_iload_n dX12_layMost_73 rfl rfl ?_
          refine Ex_iast12 (c := D) dX12_layMost_74 rfl (ma20 M1_) rfl (by omega) (by omega) ?_
          refine mg20 M1_ ?_
          intro h2_ M2_ f2_
          refine Ex_iload_n dX12_layMost_75 rfl rfl ?_
          refine Ex_if_ge (t := 85) dX12_layMost_76 rfl rfl (by omega) (fun c76 => ?_) (fun c76 => absurd c76 (by omega))
          refine Ex_aload_n dX12_layMost_85 rfl rfl ?_
          refine Ex_iload_n dX12_layMost_86 rfl rfl ?_
          refine Ex_iconst dX12_layMost_87 rfl ?_
          refine Ex_idiv dX12_layMost_88 rfl (by omega) (by omega) ?_
          refine Ex_iload_n dX12_layMost_89 rfl rfl ?_
          refine Ex_iconst dX12_layMost_90 rfl ?_
          refine Ex_irem dX12_layMost_91 rfl (by omega) (by omega) ?_
          rw [show (b : Int) / 3 = ((b / 3 : Nat) : Int) by omega, show (b : Int) % 3 = ((b % 3 : Nat) : Int) by omega]
          refine Ex_inv 2 dX12_layMost_92 rfl rfl (Or.inl rfl) rfl rfl rfl rfl (ma0 M2_) rfl rfl rfl (Ex_post (x12_goMinute (c := b / 3) (w := ((b % 3 : Nat) : Int)) M2_ gA0 hn6 hg hK hB hb3c hs7 (by omega)) ?_)
          rw [← eT3, ← eS3, ← eC3]
          rintro _ h3_ ⟨rfl, M3_, f3_⟩
          have ey0 : ρA 20 0 = ρ 20 0 := by rw [eρA 20 (by decide)]
          have hch : fuR ρA 20 (fu (ρA 20) D (b : Int)) 20 0 = (cc : Int) := by
            rw [fuR_at, ecc]
            by_cases e : D = 0
            · subst e; rw [fu_at]; rfl
            · rw [fu_ne (by omega), ey0, h0c (by omega), if_neg e]
          have a31 : gA 31 = g 31 := eA 31 (by decide) (by decide) (by decide) (by decide)
          have a32 : gA 32 = g 32 := eA 32 (by decide) (by decide) (by decide) (by decide)
          refine Ex_iload_n dX12_layMost_95 rfl rfl ?_
          refine Ex_iconst dX12_layMost_96 rfl ?_
          refine Ex_iadd dX12_layMost_97 rfl ?_
          refine Ex_iload_n dX12_layMost_98 rfl rfl ?_
          refine Ex_icmp_ge (t := 128) dX12_layMost_99 rfl rfl (by omega) (fun c99 => ?_) (fun c99 => absurd c99 (by omega))
          refine Ex_aload_n dX12_layMost_128 rfl rfl ?_
          refine Ex_inv 2 dX12_layMost_129 rfl rfl (Or.inl rfl) rfl rfl rfl rfl (ma0 M3_) rfl rfl rfl (Ex_post (x12_allSteps M3_ gA0 hn6 gm) ?_)
          rintro _ _ ⟨rfl, e0⟩
          obtain rfl := Eq.symm e0
          rw [show sm S3 0 n = stp (n, mm + 1, K, F, T3, S3, C3) from rfl]
          refine Ex_aload_n dX12_layMost_132 rfl rfl ?_
          refine Ex_getf dX12_layMost_133 rfl (ma0 M3_) rfl rfl rfl ?_
          rw [show (fu gA 6 (gA 6 + 1)) 31 = gA 31 from rfl]
          rw [a31]
          refine Ex_icmp_le (t := 171) dX12_layMost_136 rfl rfl (by omega) (fun c136 => absurd c136 (by omega)) (fun c136 => ?_)
          refine Ex_aload_n dX12_layMost_139 rfl rfl ?_
          refine Ex_aload_n dX12_layMost_140 rfl rfl ?_
          refine Ex_inv 2 dX12_layMost_141 rfl rfl (Or.inl rfl) rfl rfl rfl rfl (ma0 M3_) rfl rfl rfl (Ex_post (x12_allSteps M3_ gA0 hn6 gm) ?_)
          rintro _ _ ⟨rfl, e0⟩
          obtain rfl := Eq.symm e0
          rw [show sm S3 0 n = stp (n, mm + 1, K, F, T3, S3, C3) from rfl]
          refine Ex_put12 (k0 := 31) (v := (stp (n, mm + 1, K, F, T3, S3, C3))) dX12_layMost_144 rfl (ma0 M3_) rfl rfl rfl rfl rfl (by omega) rfl ?_
          refine mg0 M3_ ?_
          intro h4_ M4_ f4_
          refine Ex_aload_n dX12_layMost_147 rfl rfl ?_
          refine Ex_bipush dX12_layMost_148 rfl (by decide) ?_
          refine Ex_aload_n dX12_layMost_150 rfl rfl ?_
          refine Ex_getf dX12_layMost_151 rfl (ma0 M4_) rfl rfl rfl ?_
          refine Ex_iconst dX12_layMost_154 rfl ?_
          refine Ex_iald12 (c := 0) dX12_layMost_155 rfl (ma20 M4_) rfl (by omega) ?_
          rw [hch]
          refine Ex_iconst dX12_layMost_156 rfl ?_
          refine Ex_idiv dX12_layMost_157 rfl (by omega) (by omega) ?_
          refine Ex_imul dX12_layMost_158 rfl ?_
          refine Ex_aload_n dX12_layMost_159 rfl rfl ?_
          refine Ex_getf dX12_layMost_160 rfl (ma0 M4_) rfl rfl rfl ?_
          refine Ex_iconst dX12_layMost_163 rfl ?_
          refine Ex_iald12 (c := 0) dX12_layMost_164 rfl (ma20 M4_) rfl (by omega) ?_
          rw [hch]
          refine Ex_iconst dX12_layMost_165 rfl ?_
          refine Ex_irem dX12_layMost_166 rfl (by omega) (by omega) ?_
          refine Ex_iadd dX12_layMost_167 rfl ?_
          refine Ex_put12 (k0 := 32) (v := (10 * ((cc : Int) / 3) + (cc : Int) % 3)) dX12_layMost_168 rfl (ma0 M4_) rfl rfl rfl rfl rfl (by omega) rfl ?_
          refine mg0 M4_ ?_
          intro h5_ M5_ f5_
          refine Ex_goto (t := 46) dX12_layMost_171 rfl ?_
          have hlf : lf 0 (cd cc) (n, mm + 1, K, F, T3, S3, C3) (g 31, g 32) = (stp (n, mm + 1, K, F, T3, S3, C3), cd cc) := by
            show up2 (stp (n, mm + 1, K, F, T3, S3, C3)) (cd cc) (g 31, g 32) = _
            unfold up2
            exact if_pos qs
          rw [hlf] at hgo
          have mk0 : MK g (fu (fu (fu gA 6 (gA 6 + 1)) 31 (stp (n, mm + 1, K, F, T3, S3, C3))) 32 (10 * ((cc : Int) / 3) + (cc : Int) % 3)) ρ (fuR ρA 20 (fu (ρA 20) D (b : Int))) D := (⟨fun t _ => by rw [fuR_ne (by decide), eρA 18 (by decide)], fun e he => by rw [fuR_at, fu_ne (by omega), eρA 20 (by decide)], fun r q1 q2 q3 => by rw [fuR_ne q3, eρA r q2], fun t q1 q2 q3 q4 q5 q6 => by show (fu (fu (fu gA 6 (gA 6 + 1)) 31 (stp (n, mm + 1, K, F, T3, S3, C3))) 32 (10 * ((cc : Int) / 3) + (cc : Int) % 3)) t = g t; rw [fu_ne q6, fu_ne q5, fu_ne q2]; exact eA t q3 q4 q1 q2⟩ : MK g (fu (fu (fu gA 6 (gA 6 + 1)) 31 (stp (n, mm + 1, K, F, T3, S3, C3))) 32 (10 * ((cc : Int) / 3) + (cc : Int) % 3)) ρ (fuR ρA 20 (fu (ρA 20) D (b : Int))) D)
          refine ih (b + 1) c0 mm T S C _ _ _ _ _ _ _ _ h5_ _ hc0 (by omega) (by omega) hg M5_ (fun t ht => by rw [fuR_ne (by decide), eρA 18 (by decide)]; exact hpk t ht) (by rw [fuR_at, fu_at]; omega) (fun z => by rw [fuR_at, fu_ne (by omega), ey0]; exact h0c z) (by show -1 ≤ stp (n, mm + 1, K, F, T3, S3, C3) ∧ stp (n, mm + 1, K, F, T3, S3, C3) ≤ 100; omega) (fun h2 g2 ρ2 kp2 K3 F3 T4 S4 C4 z1 z2 z3 z4 => ?_)
          refine kont h2 g2 ρ2 kp2 _ _ _ _ _ z1 ?_ (mk0.trans z3 (Nat.le_refl _)) ((f1_.trans (f2_.trans (f3_.trans (f4_.trans f5_)))).trans z4)
          rw [hgo, z2]
          rfl
        · skip
          refine Ex_iload_n dX12_layMost_46 rfl rfl ?_
          refine Ex_if_lt (t := 174) dX12_layMost_47 rfl rfl (by omega) (fun c47 => absurd c47 (by omega)) (fun c47 => ?_)
          refine Ex_aload_n dX12_layMost_50 rfl rfl ?_
          refine Ex_iload_n dX12_layMost_51 rfl rfl ?_
          refine Ex_inv 2 dX12_layMost_52 rfl rfl (Or.inl rfl) rfl rfl rfl rfl (ma0 M) rfl rfl rfl (Ex_post (x12_toStage (s := D) M hB (by omega) hpk) ?_)
          rintro _ h1_ ⟨rfl, ⟨gA, ρA, kpA, M1_, ⟨gA0, gA6⟩, eρA, eA⟩, f1_⟩
          have eA20 : ρA 20 D = (j : Int) - 1 := by rw [eρA 20 (by decide)]; exact hcur
          refine Ex_aload_n dX12_layMost_55 rfl rfl ?_
          refine Ex_aload_n dX12_layMost_56 rfl rfl ?_
          refine Ex_getf dX12_layMost_57 rfl (ma0 M1_) rfl rfl rfl ?_
          refine Ex_iload_n dX12_layMost_60 rfl rfl ?_
          refine Ex_iald12 (c := D) dX12_layMost_61 rfl (ma20 M1_) rfl (by omega) ?_
          rw [eA20]
          refine Ex_iconst dX12_layMost_62 rfl ?_
          refine Ex_iadd dX12_layMost_63 rfl ?_
          rw [show (j : Int) - 1 + 1 = (j : Int) by omega]
          refine Ex_inv 2 dX12_layMost_64 rfl rfl (Or.inl rfl) rfl rfl rfl rfl (ma0 M1_) rfl rfl rfl (Ex_post (x12_nextChoice (c := j) M1_ gA0 hn6 hg hj) ?_)
          rintro _ _ ⟨rfl, e0⟩
          obtain rfl := Eq.symm e0
          rw [hnc]
          refine Ex_istore_n (L2 := [_, _, _, _]) dX12_layMost_67 rfl rfl rfl ?_
          refine Ex_aload_n dX12_layMost_68 rfl rfl ?_
          refine Ex_getf dX12_layMost_69 rfl (ma0 M1_) rfl rfl rfl ?_
          refine Ex_iload_n dX12_layMost_72 rfl rfl ?_
          refine Ex_iload_n dX12_layMost_73 rfl rfl ?_
          refine Ex_iast12 (c := D) dX12_layMost_74 rfl (ma20 M1_) rfl (by omega) (by omega) ?_
          refine mg20 M1_ ?_
          intro h2_ M2_ f2_
          refine Ex_iload_n dX12_layMost_75 rfl rfl ?_
          refine Ex_if_ge (t := 85) dX12_layMost_76 rfl rfl (by omega) (fun c76 => ?_) (fun c76 => absurd c76 (by omega))
          refine Ex_aload_n dX12_layMost_85 rfl rfl ?_
          refine Ex_iload_n dX12_layMost_86 rfl rfl ?_
          refine Ex_iconst dX12_layMost_87 rfl ?_
          refine Ex_idiv dX12_layMost_88 rfl (by omega) (by omega) ?_
          refine Ex_iload_n dX12_layMost_89 rfl rfl ?_
          refine Ex_iconst dX12_layMost_90 rfl ?_
          refine Ex_irem dX12_layMost_91 rfl (by omega) (by omega) ?_
          rw [show (b : Int) / 3 = ((b / 3 : Nat) : Int) by omega, show (b : Int) % 3 = ((b % 3 : Nat) : Int) by omega]
          refine Ex_inv 2 dX12_layMost_92 rfl rfl (Or.inl rfl) rfl rfl rfl rfl (ma0 M2_) rfl rfl rfl (Ex_post (x12_goMinute (c := b / 3) (w := ((b % 3 : Nat) : Int)) M2_ gA0 hn6 hg hK hB hb3c hs7 (by omega)) ?_)
          rw [← eT3, ← eS3, ← eC3]
          rintro _ h3_ ⟨rfl, M3_, f3_⟩
          have ey0 : ρA 20 0 = ρ 20 0 := by rw [eρA 20 (by decide)]
          have hch : fuR ρA 20 (fu (ρA 20) D (b : Int)) 20 0 = (cc : Int) := by
            rw [fuR_at, ecc]
            by_cases e : D = 0
            · subst e; rw [fu_at]; rfl
            · rw [fu_ne (by omega), ey0, h0c (by omega), if_neg e]
          have a31 : gA 31 = g 31 := eA 31 (by decide) (by decide) (by decide) (by decide)
          have a32 : gA 32 = g 32 := eA 32 (by decide) (by decide) (by decide) (by decide)
          refine Ex_iload_n dX12_layMost_95 rfl rfl ?_
          refine Ex_iconst dX12_layMost_96 rfl ?_
          refine Ex_iadd dX12_layMost_97 rfl ?_
          refine Ex_iload_n dX12_layMost_98 rfl rfl ?_
          refine Ex_icmp_ge (t := 128) dX12_layMost_99 rfl rfl (by omega) (fun c99 => ?_) (fun c99 => absurd c99 (by omega))
          refine Ex_aload_n dX12_layMost_128 rfl rfl ?_
          refine Ex_inv 2 dX12_layMost_129 rfl rfl (Or.inl rfl) rfl rfl rfl rfl (ma0 M3_) rfl rfl rfl (Ex_post (x12_allSteps M3_ gA0 hn6 gm) ?_)
          rintro _ _ ⟨rfl, e0⟩
          obtain rfl := Eq.symm e0
          rw [show sm S3 0 n = stp (n, mm + 1, K, F, T3, S3, C3) from rfl]
          refine Ex_aload_n dX12_layMost_132 rfl rfl ?_
          refine Ex_getf dX12_layMost_133 rfl (ma0 M3_) rfl rfl rfl ?_
          rw [show (fu gA 6 (gA 6 + 1)) 31 = gA 31 from rfl]
          rw [a31]
          refine Ex_icmp_le (t := 171) dX12_layMost_136 rfl rfl (by omega) (fun c136 => ?_) (fun c136 => absurd c136 (by omega))
          refine Ex_goto (t := 46) dX12_layMost_171 rfl ?_
          have hlf : lf 0 (cd cc) (n, mm + 1, K, F, T3, S3, C3) (g 31, g 32) = (g 31, g 32) := by
            show up2 (stp (n, mm + 1, K, F, T3, S3, C3)) (cd cc) (g 31, g 32) = _
            unfold up2
            exact if_neg qs
          rw [hlf] at hgo
          have mk0 : MK g (fu gA 6 (gA 6 + 1)) ρ (fuR ρA 20 (fu (ρA 20) D (b : Int))) D := (⟨fun t _ => by rw [fuR_ne (by decide), eρA 18 (by decide)], fun e he => by rw [fuR_at, fu_ne (by omega), eρA 20 (by decide)], fun r q1 q2 q3 => by rw [fuR_ne q3, eρA r q2], fun t q1 q2 q3 q4 q5 q6 => by show (fu gA 6 (gA 6 + 1)) t = g t; rw [fu_ne q2]; exact eA t q3 q4 q1 q2⟩ : MK g (fu gA 6 (gA 6 + 1)) ρ (fuR ρA 20 (fu (ρA 20) D (b : Int))) D)
          refine ih (b + 1) c0 mm T S C _ _ _ _ _ _ _ _ h3_ _ hc0 (by omega) (by omega) hg M3_ (fun t ht => by rw [fuR_ne (by decide), eρA 18 (by decide)]; exact hpk t ht) (by rw [fuR_at, fu_at]; omega) (fun z => by rw [fuR_at, fu_ne (by omega), ey0]; exact h0c z) (by show -1 ≤ gA 31 ∧ gA 31 ≤ 100; omega) (fun h2 g2 ρ2 kp2 K3 F3 T4 S4 C4 z1 z2 z3 z4 => ?_)
          refine kont h2 g2 ρ2 kp2 _ _ _ _ _ z1 ?_ (mk0.trans z3 (Nat.le_refl _)) ((f1_.trans (f2_.trans f3_)).trans z4)
          rw [hgo, z2]
          show lfJ _ _ _ (gA 31, gA 32) _ = _
          rw [a31, a32]
  | succ L ihL =>
    intro D hD k
    induction k with
    | zero =>
      intro j c0 mm T S C g ρ kp K2 F2 T2 S2 C2 h v3 hc0 hk hj hg M hpk hcur h0c h31 kont
      have hnc : nch S j (3 * n - j) = -4 := by rw [show 3 * n - j = 0 by omega]; rfl
      refine Ex_iload_n dX12_layMost_46 rfl rfl ?_
      refine Ex_if_lt (t := 174) dX12_layMost_47 rfl rfl (by omega) (fun c47 => absurd c47 (by omega)) (fun c47 => ?_)
      refine Ex_aload_n dX12_layMost_50 rfl rfl ?_
      refine Ex_iload_n dX12_layMost_51 rfl rfl ?_
      refine Ex_inv 2 dX12_layMost_52 rfl rfl (Or.inl rfl) rfl rfl rfl rfl (ma0 M) rfl rfl rfl (Ex_post (x12_toStage (s := D) M hB (by omega) hpk) ?_)
      rintro _ h1_ ⟨rfl, ⟨gA, ρA, kpA, M1_, ⟨gA0, gA6⟩, eρA, eA⟩, f1_⟩
      have eA20 : ρA 20 D = (j : Int) - 1 := by rw [eρA 20 (by decide)]; exact hcur
      refine Ex_aload_n dX12_layMost_55 rfl rfl ?_
      refine Ex_aload_n dX12_layMost_56 rfl rfl ?_
      refine Ex_getf dX12_layMost_57 rfl (ma0 M1_) rfl rfl rfl ?_
      refine Ex_iload_n dX12_layMost_60 rfl rfl ?_
      refine Ex_iald12 (c := D) dX12_layMost_61 rfl (ma20 M1_) rfl (by omega) ?_
      rw [eA20]
      refine Ex_iconst dX12_layMost_62 rfl ?_
      refine Ex_iadd dX12_layMost_63 rfl ?_
      rw [show (j : Int) - 1 + 1 = (j : Int) by omega]
      refine Ex_inv 2 dX12_layMost_64 rfl rfl (Or.inl rfl) rfl rfl rfl rfl (ma0 M1_) rfl rfl rfl (Ex_post (x12_nextChoice (c := j) M1_ gA0 hn6 hg hj) ?_)
      rintro _ _ ⟨rfl, e0⟩
      obtain rfl := Eq.symm e0
      rw [hnc]
      refine Ex_istore_n (L2 := [_, _, _, _]) dX12_layMost_67 rfl rfl rfl ?_
      refine Ex_aload_n dX12_layMost_68 rfl rfl ?_
      refine Ex_getf dX12_layMost_69 rfl (ma0 M1_) rfl rfl rfl ?_
      refine Ex_iload_n dX12_layMost_72 rfl rfl ?_
      refine Ex_iload_n dX12_layMost_73 rfl rfl ?_
      refine Ex_iast12 (c := D) dX12_layMost_74 rfl (ma20 M1_) rfl (by omega) (by omega) ?_
      refine mg20 M1_ ?_
      intro h2_ M2_ f2_
      refine Ex_iload_n dX12_layMost_75 rfl rfl ?_
      refine Ex_if_ge (t := 85) dX12_layMost_76 rfl rfl (by omega) (fun c76 => absurd c76 (by omega)) (fun c76 => ?_)
      refine Ex_iinc (L2 := [_, _, _, _]) dX12_layMost_79 rfl rfl rfl ?_
      refine Ex_goto (t := 171) dX12_layMost_82 rfl ?_
      refine Ex_goto (t := 46) dX12_layMost_171 rfl ?_
      have a31 : gA 31 = g 31 := eA 31 (by decide) (by decide) (by decide) (by decide)
      have a32 : gA 32 = g 32 := eA 32 (by decide) (by decide) (by decide) (by decide)
      exact kont h2_ gA _ _ _ _ _ _ _ M2_ (by rw [a31, a32]; exact (lfJ_no (3 * n - j) j _ hnc).symm) (⟨fun t _ => by rw [fuR_ne (by decide), eρA 18 (by decide)], fun e he => by rw [fuR_at, fu_ne (by omega), eρA 20 (by decide)], fun r q1 q2 q3 => by rw [fuR_ne q3, eρA r q2], fun t q1 q2 q3 q4 q5 q6 => eA t q3 q4 q1 q2⟩ : MK g gA ρ (fuR ρA 20 (fu (ρA 20) D (-4))) D) (f1_.trans f2_)
    | succ k ih =>
      intro j c0 mm T S C g ρ kp K2 F2 T2 S2 C2 h v3 hc0 hk hj hg M hpk hcur h0c h31 kont
      rcases nch_v (S := S) (3 * n - j) j with hnc | ⟨b, hnc, hb1, hb2, hb3⟩
      · refine Ex_iload_n dX12_layMost_46 rfl rfl ?_
        refine Ex_if_lt (t := 174) dX12_layMost_47 rfl rfl (by omega) (fun c47 => absurd c47 (by omega)) (fun c47 => ?_)
        refine Ex_aload_n dX12_layMost_50 rfl rfl ?_
        refine Ex_iload_n dX12_layMost_51 rfl rfl ?_
        refine Ex_inv 2 dX12_layMost_52 rfl rfl (Or.inl rfl) rfl rfl rfl rfl (ma0 M) rfl rfl rfl (Ex_post (x12_toStage (s := D) M hB (by omega) hpk) ?_)
        rintro _ h1_ ⟨rfl, ⟨gA, ρA, kpA, M1_, ⟨gA0, gA6⟩, eρA, eA⟩, f1_⟩
        have eA20 : ρA 20 D = (j : Int) - 1 := by rw [eρA 20 (by decide)]; exact hcur
        refine Ex_aload_n dX12_layMost_55 rfl rfl ?_
        refine Ex_aload_n dX12_layMost_56 rfl rfl ?_
        refine Ex_getf dX12_layMost_57 rfl (ma0 M1_) rfl rfl rfl ?_
        refine Ex_iload_n dX12_layMost_60 rfl rfl ?_
        refine Ex_iald12 (c := D) dX12_layMost_61 rfl (ma20 M1_) rfl (by omega) ?_
        rw [eA20]
        refine Ex_iconst dX12_layMost_62 rfl ?_
        refine Ex_iadd dX12_layMost_63 rfl ?_
        rw [show (j : Int) - 1 + 1 = (j : Int) by omega]
        refine Ex_inv 2 dX12_layMost_64 rfl rfl (Or.inl rfl) rfl rfl rfl rfl (ma0 M1_) rfl rfl rfl (Ex_post (x12_nextChoice (c := j) M1_ gA0 hn6 hg hj) ?_)
        rintro _ _ ⟨rfl, e0⟩
        obtain rfl := Eq.symm e0
        rw [hnc]
        refine Ex_istore_n (L2 := [_, _, _, _]) dX12_layMost_67 rfl rfl rfl ?_
        refine Ex_aload_n dX12_layMost_68 rfl rfl ?_
        refine Ex_getf dX12_layMost_69 rfl (ma0 M1_) rfl rfl rfl ?_
        refine Ex_iload_n dX12_layMost_72 rfl rfl ?_
        refine Ex_iload_n dX12_layMost_73 rfl rfl ?_
        refine Ex_iast12 (c := D) dX12_layMost_74 rfl (ma20 M1_) rfl (by omega) (by omega) ?_
        refine mg20 M1_ ?_
        intro h2_ M2_ f2_
        refine Ex_iload_n dX12_layMost_75 rfl rfl ?_
        refine Ex_if_ge (t := 85) dX12_layMost_76 rfl rfl (by omega) (fun c76 => absurd c76 (by omega)) (fun c76 => ?_)
        refine Ex_iinc (L2 := [_, _, _, _]) dX12_layMost_79 rfl rfl rfl ?_
        refine Ex_goto (t := 171) dX12_layMost_82 rfl ?_
        refine Ex_goto (t := 46) dX12_layMost_171 rfl ?_
        have a31 : gA 31 = g 31 := eA 31 (by decide) (by decide) (by decide) (by decide)
        have a32 : gA 32 = g 32 := eA 32 (by decide) (by decide) (by decide) (by decide)
        exact kont h2_ gA _ _ _ _ _ _ _ M2_ (by rw [a31, a32]; exact (lfJ_no (3 * n - j) j _ hnc).symm) (⟨fun t _ => by rw [fuR_ne (by decide), eρA 18 (by decide)], fun e he => by rw [fuR_at, fu_ne (by omega), eρA 20 (by decide)], fun r q1 q2 q3 => by rw [fuR_ne q3, eρA r q2], fun t q1 q2 q3 q4 q5 q6 => eA t q3 q4 q1 q2⟩ : MK g gA ρ (fuR ρA 20 (fu (ρA 20) D (-4))) D) (f1_.trans f2_)
      · have hb3c : b / 3 < n := by omega
        have hs7 : S (b / 3) < 7 := by
          have := (hg (b / 3) hb3c).2.1
          omega
        have gm := min_r (K := K) (way := ((b % 3 : Nat) : Int)) hg (fun i hi => (hK i hi).2) hb3c hs7
        obtain ⟨T3, eT3⟩ : ∃ z, z = minT n (b / 3) ((b % 3 : Nat) : Int) K F T S C := ⟨_, rfl⟩
        obtain ⟨S3, eS3⟩ : ∃ z, z = mnS (b / 3) ((b % 3 : Nat) : Int) K F T S := ⟨_, rfl⟩
        obtain ⟨C3, eC3⟩ : ∃ z, z = minC n (b / 3) ((b % 3 : Nat) : Int) K F T S C := ⟨_, rfl⟩
        have eY : rsM (b / 3) ((b % 3 : Nat) : Int) (n, mm, K, F, T, S, C) = (n, mm + 1, K, F, T3, S3, C3) := by rw [eT3, eS3, eC3]; rfl
        rw [← eT3, ← eS3, ← eC3] at gm
        have hYX : RX (n, mm + 1, K, F, T3, S3, C3) := ⟨gm, fun i hi => (hK i hi).2, hn6⟩
        have hst := stp_r hYX
        obtain ⟨cc, ecc⟩ : ∃ z, z = if D = 0 then b else c0 := ⟨_, rfl⟩
        have hcc : cc ≤ 20 := by rw [ecc]; split <;> omega
        have hgo := lfJ_go (φ := fun j => lf (L + 1) (cd (if D = 0 then j else c0))) (X := (n, mm, K, F, T, S, C)) (3 * n - j) j (g 31, g 32) hnc
        rw [eY, ← ecc, show j + (3 * n - j) - (b + 1) = 3 * n - (b + 1) by omega] at hgo
        have hnv := nch_v (S := S3) (3 * n) 0
        by_cases hnl : nch S3 0 (3 * n) < 0
        · by_cases qs : g 31 < stp (n, mm + 1, K, F, T3, S3, C3)
          · have qs : g 31 < stp (n, mm + 1, K, F, T3, S3, C3) := qs
            refine Ex_iload_n dX12_layMost_46 rfl rfl ?_
            refine Ex_if_lt (t := 174) dX12_layMost_47 rfl rfl (by omega) (fun c47 => absurd c47 (by omega)) (fun c47 => ?_)
            refine Ex_aload_n dX12_layMost_50 rfl rfl ?_
            refine Ex_iload_n dX12_layMost_51 rfl rfl ?_
            refine Ex_inv 2 dX12_layMost_52 rfl rfl (Or.inl rfl) rfl rfl rfl rfl (ma0 M) rfl rfl rfl (Ex_post (x12_toStage (s := D) M hB (by omega) hpk) ?_)
            rintro _ h1_ ⟨rfl, ⟨gA, ρA, kpA, M1_, ⟨gA0, gA6⟩, eρA, eA⟩, f1_⟩
            have eA20 : ρA 20 D = (j : Int) - 1 := by rw [eρA 20 (by decide)]; exact hcur
            refine Ex_aload_n dX12_layMost_55 rfl rfl ?_
            refine Ex_aload_n dX12_layMost_56 rfl rfl ?_
            refine Ex_getf dX12_layMost_57 rfl (ma0 M1_) rfl rfl rfl ?_
            refine Ex_iload_n dX12_layMost_60 rfl rfl ?_
            refine Ex_iald12 (c := D) dX12_layMost_61 rfl (ma20 M1_) rfl (by omega) ?_
            rw [eA20]
            refine Ex_iconst dX12_layMost_62 rfl ?_
            refine Ex_iadd dX12_layMost_63 rfl ?_
            rw [show (j : Int) - 1 + 1 = (j : Int) by omega]
            refine Ex_inv 2 dX12_layMost_64 rfl rfl (Or.inl rfl) rfl rfl rfl rfl (ma0 M1_) rfl rfl rfl (Ex_post (x12_nextChoice (c := j) M1_ gA0 hn6 hg hj) ?_)
            rintro _ _ ⟨rfl, e0⟩
            obtain rfl := Eq.symm e0
            rw [hnc]
            refine Ex_istore_n (L2 := [_, _, _, _]) dX12_layMost_67 rfl rfl rfl ?_
            refine Ex_aload_n dX12_layMost_68 rfl rfl ?_
            refine Ex_getf dX12_layMost_69 rfl (ma0 M1_) rfl rfl rfl ?_
            refine Ex_iload_n dX12_layMost_72 rfl rfl ?_
            refine Ex_iload_n dX12_layMost_73 rfl rfl ?_
            refine Ex_iast12 (c := D) dX12_layMost_74 rfl (ma20 M1_) rfl (by omega) (by omega) ?_
            refine mg20 M1_ ?_
            intro h2_ M2_ f2_
            refine Ex_iload_n dX12_layMost_75 rfl rfl ?_
            refine Ex_if_ge (t := 85) dX12_layMost_76 rfl rfl (by omega) (fun c76 => ?_) (fun c76 => absurd c76 (by omega))
            refine Ex_aload_n dX12_layMost_85 rfl rfl ?_
            refine Ex_iload_n dX12_layMost_86 rfl rfl ?_
            refine Ex_iconst dX12_layMost_87 rfl ?_
            refine Ex_idiv dX12_layMost_88 rfl (by omega) (by omega) ?_
            refine Ex_iload_n dX12_layMost_89 rfl rfl ?_
            refine Ex_iconst dX12_layMost_90 rfl ?_
            refine Ex_irem dX12_layMost_91 rfl (by omega) (by omega) ?_
            rw [show (b : Int) / 3 = ((b / 3 : Nat) : Int) by omega, show (b : Int) % 3 = ((b % 3 : Nat) : Int) by omega]
            refine Ex_inv 2 dX12_layMost_92 rfl rfl (Or.inl rfl) rfl rfl rfl rfl (ma0 M2_) rfl rfl rfl (Ex_post (x12_goMinute (c := b / 3) (w := ((b % 3 : Nat) : Int)) M2_ gA0 hn6 hg hK hB hb3c hs7 (by omega)) ?_)
            rw [← eT3, ← eS3, ← eC3]
            rintro _ h3_ ⟨rfl, M3_, f3_⟩
            have ey0 : ρA 20 0 = ρ 20 0 := by rw [eρA 20 (by decide)]
            have hch : fuR ρA 20 (fu (ρA 20) D (b : Int)) 20 0 = (cc : Int) := by
              rw [fuR_at, ecc]
              by_cases e : D = 0
              · subst e; rw [fu_at]; rfl
              · rw [fu_ne (by omega), ey0, h0c (by omega), if_neg e]
            have a31 : gA 31 = g 31 := eA 31 (by decide) (by decide) (by decide) (by decide)
            have a32 : gA 32 = g 32 := eA 32 (by decide) (by decide) (by decide) (by decide)
            refine Ex_iload_n dX12_layMost_95 rfl rfl ?_
            refine Ex_iconst dX12_layMost_96 rfl ?_
            refine Ex_iadd dX12_layMost_97 rfl ?_
            refine Ex_iload_n dX12_layMost_98 rfl rfl ?_
            refine Ex_icmp_ge (t := 128) dX12_layMost_99 rfl rfl (by omega) (fun c99 => absurd c99 (by omega)) (fun c99 => ?_)
            refine Ex_aload_n dX12_layMost_102 rfl rfl ?_
            refine Ex_iconst dX12_layMost_103 rfl ?_
            refine Ex_inv 2 dX12_layMost_104 rfl rfl (Or.inl rfl) rfl rfl rfl rfl (ma0 M3_) rfl rfl rfl (Ex_post (x12_nextChoice (c := 0) M3_ gA0 hn6 gm (by omega)) ?_)
            rintro _ _ ⟨rfl, e0⟩
            obtain rfl := Eq.symm e0
            rw [Nat.sub_zero]
            refine Ex_if_lt (t := 128) dX12_layMost_107 rfl rfl (by omega) (fun c107 => ?_) (fun c107 => absurd c107 (by omega))
            refine Ex_aload_n dX12_layMost_128 rfl rfl ?_
            refine Ex_inv 2 dX12_layMost_129 rfl rfl (Or.inl rfl) rfl rfl rfl rfl (ma0 M3_) rfl rfl rfl (Ex_post (x12_allSteps M3_ gA0 hn6 gm) ?_)
            rintro _ _ ⟨rfl, e0⟩
            obtain rfl := Eq.symm e0
            rw [show sm S3 0 n = stp (n, mm + 1, K, F, T3, S3, C3) from rfl]
            refine Ex_aload_n dX12_layMost_132 rfl rfl ?_
            refine Ex_getf dX12_layMost_133 rfl (ma0 M3_) rfl rfl rfl ?_
            rw [show (fu gA 6 (gA 6 + 1)) 31 = gA 31 from rfl]
            rw [a31]
            refine Ex_icmp_le (t := 171) dX12_layMost_136 rfl rfl (by omega) (fun c136 => absurd c136 (by omega)) (fun c136 => ?_)
            refine Ex_aload_n dX12_layMost_139 rfl rfl ?_
            refine Ex_aload_n dX12_layMost_140 rfl rfl ?_
            refine Ex_inv 2 dX12_layMost_141 rfl rfl (Or.inl rfl) rfl rfl rfl rfl (ma0 M3_) rfl rfl rfl (Ex_post (x12_allSteps M3_ gA0 hn6 gm) ?_)
            rintro _ _ ⟨rfl, e0⟩
            obtain rfl := Eq.symm e0
            rw [show sm S3 0 n = stp (n, mm + 1, K, F, T3, S3, C3) from rfl]
            refine Ex_put12 (k0 := 31) (v := (stp (n, mm + 1, K, F, T3, S3, C3))) dX12_layMost_144 rfl (ma0 M3_) rfl rfl rfl rfl rfl (by omega) rfl ?_
            refine mg0 M3_ ?_
            intro h4_ M4_ f4_
            refine Ex_aload_n dX12_layMost_147 rfl rfl ?_
            refine Ex_bipush dX12_layMost_148 rfl (by decide) ?_
            refine Ex_aload_n dX12_layMost_150 rfl rfl ?_
            refine Ex_getf dX12_layMost_151 rfl (ma0 M4_) rfl rfl rfl ?_
            refine Ex_iconst dX12_layMost_154 rfl ?_
            refine Ex_iald12 (c := 0) dX12_layMost_155 rfl (ma20 M4_) rfl (by omega) ?_
            rw [hch]
            refine Ex_iconst dX12_layMost_156 rfl ?_
            refine Ex_idiv dX12_layMost_157 rfl (by omega) (by omega) ?_
            refine Ex_imul dX12_layMost_158 rfl ?_
            refine Ex_aload_n dX12_layMost_159 rfl rfl ?_
            refine Ex_getf dX12_layMost_160 rfl (ma0 M4_) rfl rfl rfl ?_
            refine Ex_iconst dX12_layMost_163 rfl ?_
            refine Ex_iald12 (c := 0) dX12_layMost_164 rfl (ma20 M4_) rfl (by omega) ?_
            rw [hch]
            refine Ex_iconst dX12_layMost_165 rfl ?_
            refine Ex_irem dX12_layMost_166 rfl (by omega) (by omega) ?_
            refine Ex_iadd dX12_layMost_167 rfl ?_
            refine Ex_put12 (k0 := 32) (v := (10 * ((cc : Int) / 3) + (cc : Int) % 3)) dX12_layMost_168 rfl (ma0 M4_) rfl rfl rfl rfl rfl (by omega) rfl ?_
            refine mg0 M4_ ?_
            intro h5_ M5_ f5_
            refine Ex_goto (t := 46) dX12_layMost_171 rfl ?_
            have hlf : lf (L + 1) (cd cc) (n, mm + 1, K, F, T3, S3, C3) (g 31, g 32) = (stp (n, mm + 1, K, F, T3, S3, C3), cd cc) := by
              show (if nch S3 0 (3 * n) < 0 then up2 (stp (n, mm + 1, K, F, T3, S3, C3)) (cd cc) (g 31, g 32) else _) = _
              rw [if_pos hnl]
              unfold up2
              exact if_pos qs
            rw [hlf] at hgo
            have mk0 : MK g (fu (fu (fu gA 6 (gA 6 + 1)) 31 (stp (n, mm + 1, K, F, T3, S3, C3))) 32 (10 * ((cc : Int) / 3) + (cc : Int) % 3)) ρ (fuR ρA 20 (fu (ρA 20) D (b : Int))) D := (⟨fun t _ => by rw [fuR_ne (by decide), eρA 18 (by decide)], fun e he => by rw [fuR_at, fu_ne (by omega), eρA 20 (by decide)], fun r q1 q2 q3 => by rw [fuR_ne q3, eρA r q2], fun t q1 q2 q3 q4 q5 q6 => by show (fu (fu (fu gA 6 (gA 6 + 1)) 31 (stp (n, mm + 1, K, F, T3, S3, C3))) 32 (10 * ((cc : Int) / 3) + (cc : Int) % 3)) t = g t; rw [fu_ne q6, fu_ne q5, fu_ne q2]; exact eA t q3 q4 q1 q2⟩ : MK g (fu (fu (fu gA 6 (gA 6 + 1)) 31 (stp (n, mm + 1, K, F, T3, S3, C3))) 32 (10 * ((cc : Int) / 3) + (cc : Int) % 3)) ρ (fuR ρA 20 (fu (ρA 20) D (b : Int))) D)
            refine ih (b + 1) c0 mm T S C _ _ _ _ _ _ _ _ h5_ _ hc0 (by omega) (by omega) hg M5_ (fun t ht => by rw [fuR_ne (by decide), eρA 18 (by decide)]; exact hpk t ht) (by rw [fuR_at, fu_at]; omega) (fun z => by rw [fuR_at, fu_ne (by omega), ey0]; exact h0c z) (by show -1 ≤ stp (n, mm + 1, K, F, T3, S3, C3) ∧ stp (n, mm + 1, K, F, T3, S3, C3) ≤ 100; omega) (fun h2 g2 ρ2 kp2 K3 F3 T4 S4 C4 z1 z2 z3 z4 => ?_)
            refine kont h2 g2 ρ2 kp2 _ _ _ _ _ z1 ?_ (mk0.trans z3 (Nat.le_refl _)) ((f1_.trans (f2_.trans (f3_.trans (f4_.trans f5_)))).trans z4)
            rw [hgo, z2]
            rfl
          · skip
            refine Ex_iload_n dX12_layMost_46 rfl rfl ?_
            refine Ex_if_lt (t := 174) dX12_layMost_47 rfl rfl (by omega) (fun c47 => absurd c47 (by omega)) (fun c47 => ?_)
            refine Ex_aload_n dX12_layMost_50 rfl rfl ?_
            refine Ex_iload_n dX12_layMost_51 rfl rfl ?_
            refine Ex_inv 2 dX12_layMost_52 rfl rfl (Or.inl rfl) rfl rfl rfl rfl (ma0 M) rfl rfl rfl (Ex_post (x12_toStage (s := D) M hB (by omega) hpk) ?_)
            rintro _ h1_ ⟨rfl, ⟨gA, ρA, kpA, M1_, ⟨gA0, gA6⟩, eρA, eA⟩, f1_⟩
            have eA20 : ρA 20 D = (j : Int) - 1 := by rw [eρA 20 (by decide)]; exact hcur
            refine Ex_aload_n dX12_layMost_55 rfl rfl ?_
            refine Ex_aload_n dX12_layMost_56 rfl rfl ?_
            refine Ex_getf dX12_layMost_57 rfl (ma0 M1_) rfl rfl rfl ?_
            refine Ex_iload_n dX12_layMost_60 rfl rfl ?_
            refine Ex_iald12 (c := D) dX12_layMost_61 rfl (ma20 M1_) rfl (by omega) ?_
            rw [eA20]
            refine Ex_iconst dX12_layMost_62 rfl ?_
            refine Ex_iadd dX12_layMost_63 rfl ?_
            rw [show (j : Int) - 1 + 1 = (j : Int) by omega]
            refine Ex_inv 2 dX12_layMost_64 rfl rfl (Or.inl rfl) rfl rfl rfl rfl (ma0 M1_) rfl rfl rfl (Ex_post (x12_nextChoice (c := j) M1_ gA0 hn6 hg hj) ?_)
            rintro _ _ ⟨rfl, e0⟩
            obtain rfl := Eq.symm e0
            rw [hnc]
            refine Ex_istore_n (L2 := [_, _, _, _]) dX12_layMost_67 rfl rfl rfl ?_
            refine Ex_aload_n dX12_layMost_68 rfl rfl ?_
            refine Ex_getf dX12_layMost_69 rfl (ma0 M1_) rfl rfl rfl ?_
            refine Ex_iload_n dX12_layMost_72 rfl rfl ?_
            refine Ex_iload_n dX12_layMost_73 rfl rfl ?_
            refine Ex_iast12 (c := D) dX12_layMost_74 rfl (ma20 M1_) rfl (by omega) (by omega) ?_
            refine mg20 M1_ ?_
            intro h2_ M2_ f2_
            refine Ex_iload_n dX12_layMost_75 rfl rfl ?_
            refine Ex_if_ge (t := 85) dX12_layMost_76 rfl rfl (by omega) (fun c76 => ?_) (fun c76 => absurd c76 (by omega))
            refine Ex_aload_n dX12_layMost_85 rfl rfl ?_
            refine Ex_iload_n dX12_layMost_86 rfl rfl ?_
            refine Ex_iconst dX12_layMost_87 rfl ?_
            refine Ex_idiv dX12_layMost_88 rfl (by omega) (by omega) ?_
            refine Ex_iload_n dX12_layMost_89 rfl rfl ?_
            refine Ex_iconst dX12_layMost_90 rfl ?_
            refine Ex_irem dX12_layMost_91 rfl (by omega) (by omega) ?_
            rw [show (b : Int) / 3 = ((b / 3 : Nat) : Int) by omega, show (b : Int) % 3 = ((b % 3 : Nat) : Int) by omega]
            refine Ex_inv 2 dX12_layMost_92 rfl rfl (Or.inl rfl) rfl rfl rfl rfl (ma0 M2_) rfl rfl rfl (Ex_post (x12_goMinute (c := b / 3) (w := ((b % 3 : Nat) : Int)) M2_ gA0 hn6 hg hK hB hb3c hs7 (by omega)) ?_)
            rw [← eT3, ← eS3, ← eC3]
            rintro _ h3_ ⟨rfl, M3_, f3_⟩
            have ey0 : ρA 20 0 = ρ 20 0 := by rw [eρA 20 (by decide)]
            have hch : fuR ρA 20 (fu (ρA 20) D (b : Int)) 20 0 = (cc : Int) := by
              rw [fuR_at, ecc]
              by_cases e : D = 0
              · subst e; rw [fu_at]; rfl
              · rw [fu_ne (by omega), ey0, h0c (by omega), if_neg e]
            have a31 : gA 31 = g 31 := eA 31 (by decide) (by decide) (by decide) (by decide)
            have a32 : gA 32 = g 32 := eA 32 (by decide) (by decide) (by decide) (by decide)
            refine Ex_iload_n dX12_layMost_95 rfl rfl ?_
            refine Ex_iconst dX12_layMost_96 rfl ?_
            refine Ex_iadd dX12_layMost_97 rfl ?_
            refine Ex_iload_n dX12_layMost_98 rfl rfl ?_
            refine Ex_icmp_ge (t := 128) dX12_layMost_99 rfl rfl (by omega) (fun c99 => absurd c99 (by omega)) (fun c99 => ?_)
            refine Ex_aload_n dX12_layMost_102 rfl rfl ?_
            refine Ex_iconst dX12_layMost_103 rfl ?_
            refine Ex_inv 2 dX12_layMost_104 rfl rfl (Or.inl rfl) rfl rfl rfl rfl (ma0 M3_) rfl rfl rfl (Ex_post (x12_nextChoice (c := 0) M3_ gA0 hn6 gm (by omega)) ?_)
            rintro _ _ ⟨rfl, e0⟩
            obtain rfl := Eq.symm e0
            rw [Nat.sub_zero]
            refine Ex_if_lt (t := 128) dX12_layMost_107 rfl rfl (by omega) (fun c107 => ?_) (fun c107 => absurd c107 (by omega))
            refine Ex_aload_n dX12_layMost_128 rfl rfl ?_
            refine Ex_inv 2 dX12_layMost_129 rfl rfl (Or.inl rfl) rfl rfl rfl rfl (ma0 M3_) rfl rfl rfl (Ex_post (x12_allSteps M3_ gA0 hn6 gm) ?_)
            rintro _ _ ⟨rfl, e0⟩
            obtain rfl := Eq.symm e0
            rw [show sm S3 0 n = stp (n, mm + 1, K, F, T3, S3, C3) from rfl]
            refine Ex_aload_n dX12_layMost_132 rfl rfl ?_
            refine Ex_getf dX12_layMost_133 rfl (ma0 M3_) rfl rfl rfl ?_
            rw [show (fu gA 6 (gA 6 + 1)) 31 = gA 31 from rfl]
            rw [a31]
            refine Ex_icmp_le (t := 171) dX12_layMost_136 rfl rfl (by omega) (fun c136 => ?_) (fun c136 => absurd c136 (by omega))
            refine Ex_goto (t := 46) dX12_layMost_171 rfl ?_
            have hlf : lf (L + 1) (cd cc) (n, mm + 1, K, F, T3, S3, C3) (g 31, g 32) = (g 31, g 32) := by
              show (if nch S3 0 (3 * n) < 0 then up2 (stp (n, mm + 1, K, F, T3, S3, C3)) (cd cc) (g 31, g 32) else _) = _
              rw [if_pos hnl]
              unfold up2
              exact if_neg qs
            rw [hlf] at hgo
            have mk0 : MK g (fu gA 6 (gA 6 + 1)) ρ (fuR ρA 20 (fu (ρA 20) D (b : Int))) D := (⟨fun t _ => by rw [fuR_ne (by decide), eρA 18 (by decide)], fun e he => by rw [fuR_at, fu_ne (by omega), eρA 20 (by decide)], fun r q1 q2 q3 => by rw [fuR_ne q3, eρA r q2], fun t q1 q2 q3 q4 q5 q6 => by show (fu gA 6 (gA 6 + 1)) t = g t; rw [fu_ne q2]; exact eA t q3 q4 q1 q2⟩ : MK g (fu gA 6 (gA 6 + 1)) ρ (fuR ρA 20 (fu (ρA 20) D (b : Int))) D)
            refine ih (b + 1) c0 mm T S C _ _ _ _ _ _ _ _ h3_ _ hc0 (by omega) (by omega) hg M3_ (fun t ht => by rw [fuR_ne (by decide), eρA 18 (by decide)]; exact hpk t ht) (by rw [fuR_at, fu_at]; omega) (fun z => by rw [fuR_at, fu_ne (by omega), ey0]; exact h0c z) (by show -1 ≤ gA 31 ∧ gA 31 ≤ 100; omega) (fun h2 g2 ρ2 kp2 K3 F3 T4 S4 C4 z1 z2 z3 z4 => ?_)
            refine kont h2 g2 ρ2 kp2 _ _ _ _ _ z1 ?_ (mk0.trans z3 (Nat.le_refl _)) ((f1_.trans (f2_.trans f3_)).trans z4)
            rw [hgo, z2]
            show lfJ _ _ _ (gA 31, gA 32) _ = _
            rw [a31, a32]
        · refine Ex_iload_n dX12_layMost_46 rfl rfl ?_
          refine Ex_if_lt (t := 174) dX12_layMost_47 rfl rfl (by omega) (fun c47 => absurd c47 (by omega)) (fun c47 => ?_)
          refine Ex_aload_n dX12_layMost_50 rfl rfl ?_
          refine Ex_iload_n dX12_layMost_51 rfl rfl ?_
          refine Ex_inv 2 dX12_layMost_52 rfl rfl (Or.inl rfl) rfl rfl rfl rfl (ma0 M) rfl rfl rfl (Ex_post (x12_toStage (s := D) M hB (by omega) hpk) ?_)
          rintro _ h1_ ⟨rfl, ⟨gA, ρA, kpA, M1_, ⟨gA0, gA6⟩, eρA, eA⟩, f1_⟩
          have eA20 : ρA 20 D = (j : Int) - 1 := by rw [eρA 20 (by decide)]; exact hcur
          refine Ex_aload_n dX12_layMost_55 rfl rfl ?_
          refine Ex_aload_n dX12_layMost_56 rfl rfl ?_
          refine Ex_getf dX12_layMost_57 rfl (ma0 M1_) rfl rfl rfl ?_
          refine Ex_iload_n dX12_layMost_60 rfl rfl ?_
          refine Ex_iald12 (c := D) dX12_layMost_61 rfl (ma20 M1_) rfl (by omega) ?_
          rw [eA20]
          refine Ex_iconst dX12_layMost_62 rfl ?_
          refine Ex_iadd dX12_layMost_63 rfl ?_
          rw [show (j : Int) - 1 + 1 = (j : Int) by omega]
          refine Ex_inv 2 dX12_layMost_64 rfl rfl (Or.inl rfl) rfl rfl rfl rfl (ma0 M1_) rfl rfl rfl (Ex_post (x12_nextChoice (c := j) M1_ gA0 hn6 hg hj) ?_)
          rintro _ _ ⟨rfl, e0⟩
          obtain rfl := Eq.symm e0
          rw [hnc]
          refine Ex_istore_n (L2 := [_, _, _, _]) dX12_layMost_67 rfl rfl rfl ?_
          refine Ex_aload_n dX12_layMost_68 rfl rfl ?_
          refine Ex_getf dX12_layMost_69 rfl (ma0 M1_) rfl rfl rfl ?_
          refine Ex_iload_n dX12_layMost_72 rfl rfl ?_
          refine Ex_iload_n dX12_layMost_73 rfl rfl ?_
          refine Ex_iast12 (c := D) dX12_layMost_74 rfl (ma20 M1_) rfl (by omega) (by omega) ?_
          refine mg20 M1_ ?_
          intro h2_ M2_ f2_
          refine Ex_iload_n dX12_layMost_75 rfl rfl ?_
          refine Ex_if_ge (t := 85) dX12_layMost_76 rfl rfl (by omega) (fun c76 => ?_) (fun c76 => absurd c76 (by omega))
          refine Ex_aload_n dX12_layMost_85 rfl rfl ?_
          refine Ex_iload_n dX12_layMost_86 rfl rfl ?_
          refine Ex_iconst dX12_layMost_87 rfl ?_
          refine Ex_idiv dX12_layMost_88 rfl (by omega) (by omega) ?_
          refine Ex_iload_n dX12_layMost_89 rfl rfl ?_
          refine Ex_iconst dX12_layMost_90 rfl ?_
          refine Ex_irem dX12_layMost_91 rfl (by omega) (by omega) ?_
          rw [show (b : Int) / 3 = ((b / 3 : Nat) : Int) by omega, show (b : Int) % 3 = ((b % 3 : Nat) : Int) by omega]
          refine Ex_inv 2 dX12_layMost_92 rfl rfl (Or.inl rfl) rfl rfl rfl rfl (ma0 M2_) rfl rfl rfl (Ex_post (x12_goMinute (c := b / 3) (w := ((b % 3 : Nat) : Int)) M2_ gA0 hn6 hg hK hB hb3c hs7 (by omega)) ?_)
          rw [← eT3, ← eS3, ← eC3]
          rintro _ h3_ ⟨rfl, M3_, f3_⟩
          have ey0 : ρA 20 0 = ρ 20 0 := by rw [eρA 20 (by decide)]
          have hch : fuR ρA 20 (fu (ρA 20) D (b : Int)) 20 0 = (cc : Int) := by
            rw [fuR_at, ecc]
            by_cases e : D = 0
            · subst e; rw [fu_at]; rfl
            · rw [fu_ne (by omega), ey0, h0c (by omega), if_neg e]
          have a31 : gA 31 = g 31 := eA 31 (by decide) (by decide) (by decide) (by decide)
          have a32 : gA 32 = g 32 := eA 32 (by decide) (by decide) (by decide) (by decide)
          refine Ex_iload_n dX12_layMost_95 rfl rfl ?_
          refine Ex_iconst dX12_layMost_96 rfl ?_
          refine Ex_iadd dX12_layMost_97 rfl ?_
          refine Ex_iload_n dX12_layMost_98 rfl rfl ?_
          refine Ex_icmp_ge (t := 128) dX12_layMost_99 rfl rfl (by omega) (fun c99 => absurd c99 (by omega)) (fun c99 => ?_)
          refine Ex_aload_n dX12_layMost_102 rfl rfl ?_
          refine Ex_iconst dX12_layMost_103 rfl ?_
          refine Ex_inv 2 dX12_layMost_104 rfl rfl (Or.inl rfl) rfl rfl rfl rfl (ma0 M3_) rfl rfl rfl (Ex_post (x12_nextChoice (c := 0) M3_ gA0 hn6 gm (by omega)) ?_)
          rintro _ _ ⟨rfl, e0⟩
          obtain rfl := Eq.symm e0
          rw [Nat.sub_zero]
          refine Ex_if_lt (t := 128) dX12_layMost_107 rfl rfl (by omega) (fun c107 => absurd c107 (by omega)) (fun c107 => ?_)
          refine Ex_iinc (L2 := [_, _, _, _]) dX12_layMost_110 rfl rfl rfl ?_
          refine Ex_aload_n dX12_layMost_113 rfl rfl ?_
          refine Ex_iload_n dX12_layMost_114 rfl rfl ?_
          rw [show (D : Int) + 1 = ((D + 1 : Nat) : Int) by omega]
          refine Ex_inv 2 dX12_layMost_115 rfl rfl (Or.inl rfl) rfl rfl rfl rfl (ma0 M3_) rfl rfl rfl (Ex_post (x12_keepStage (s := D + 1) M3_ gA0 rfl hB (by omega)) ?_)
          rintro _ h4_ ⟨rfl, ⟨gC, ρC, kpC, M4_, pC, oC, eρC, eC⟩, f4_⟩
          refine Ex_aload_n dX12_layMost_118 rfl rfl ?_
          refine Ex_getf dX12_layMost_119 rfl (ma0 M4_) rfl rfl rfl ?_
          refine Ex_iload_n dX12_layMost_122 rfl rfl ?_
          refine Ex_iconst dX12_layMost_123 rfl ?_
          refine Ex_iast12 (c := (D + 1)) dX12_layMost_124 rfl (ma20 M4_) (by omega) (by omega) (by omega) ?_
          refine mg20 M4_ ?_
          intro h5_ M5_ f5_
          refine Ex_goto (t := 171) dX12_layMost_125 rfl ?_
          refine Ex_goto (t := 46) dX12_layMost_171 rfl ?_
          have c31 : gC 31 = g 31 := by rw [eC 31 (by decide) (by decide)]; exact a31
          have c32 : gC 32 = g 32 := by rw [eC 32 (by decide) (by decide)]; exact a32
          have hY6 : fu gA 6 (gA 6 + 1) 6 = mm + 1 := by rw [fu_at, gA6]
          rw [hY6] at pC
          have hC20 : ∀ e, fuR ρC 20 (fu (ρC 20) (D + 1) (-1)) 20 e = fu (fu (ρA 20) D (b : Int)) (D + 1) (-1) e := fun e => by rw [fuR_at, eρC 20 (by decide) (by decide), fuR_at]
          have mkC : MK g gC ρ (fuR ρC 20 (fu (ρC 20) (D + 1) (-1))) D := ⟨fun t ht => by rw [fuR_ne (by decide), oC t (by omega), fuR_ne (by decide), eρA 18 (by decide)], fun e he => by rw [hC20, fu_ne (by omega), fu_ne (by omega), eρA 20 (by decide)], fun r q1 q2 q3 => by rw [fuR_ne q3, eρC r q1 q2, fuR_ne q3, eρA r q2], fun t q1 q2 q3 q4 q5 q6 => by rw [eC t q3 q4, fu_ne q2]; exact eA t q3 q4 q1 q2⟩
          refine ihL (D + 1) (by omega) (3 * n) 0 cc (mm + 1) T3 S3 C3 gC _ _ _ _ _ _ _ h5_ _ hcc (by omega) (by omega) gm M5_ (fun t ht => by rw [fuR_ne (by decide)]; exact pC t ht) (by rw [hC20, fu_at]; rfl) (fun _ => by rw [hC20, fu_ne (by omega)]; rw [fuR_at] at hch; exact hch) (by rw [c31]; exact h31) (fun h2 g2 ρ2 kp2 K4 F4 T4 S4 C4 z1 z2 z3 z4 => ?_)
          have hlf : lf (L + 1) (cd cc) (n, mm + 1, K, F, T3, S3, C3) (g 31, g 32) = (g2 31, g2 32) := by
            rw [z2, c31, c32]
            show (if nch S3 0 (3 * n) < 0 then _ else lfJ (fun _ => lf L (cd cc)) (n, mm + 1, K, F, T3, S3, C3) 0 (g 31, g 32) (3 * n)) = _
            rw [if_neg hnl]
            simp only [show ¬ (D + 1 = 0) by omega, if_false, Nat.sub_zero]
          have hb2_ := lf_b (code := cd cc) (l := L + 1) hYX (s := (g 31, g 32)) h31
          rw [hlf] at hgo hb2_
          have mk1 := mkC.trans z3 (by omega)
          rw [show ((D + 1 : Nat) : Int) + -1 = (D : Int) by omega]
          refine ih (b + 1) c0 mm T S C g2 ρ2 kp2 _ _ _ _ _ h2 _ hc0 (by omega) (by omega) hg z1 (fun t ht => by rw [mk1.1 _ (by omega)]; exact hpk t ht) (by rw [z3.2.1 D (by omega), hC20, fu_ne (by omega), fu_at]; omega) (fun z => by rw [mk1.2.1 0 z]; exact h0c z) hb2_ (fun h3 g3 ρ3 kp3 K5 F5 T5 S5 C5 w1 w2 w3 w4 => ?_)
          exact kont h3 g3 ρ3 kp3 _ _ _ _ _ w1 (by rw [hgo, w2]) (mk1.trans w3 (Nat.le_refl _)) (((f1_.trans (f2_.trans (f3_.trans (f4_.trans f5_)))).trans z4).trans w4)
theorem x12_layMost {E : am_E} {d : Nat} {h : Hp} {m n l : Nat} {mm : Int} {g K F T S C : Nat → Int} {ρ : Nat → Nat → Int} {kp : Value}  (M : MAt h m g K F T S C ρ kp) (hn : g 0 = (n : Int)) (hn6 : n ≤ 6) (h6 : g 6 = mm) (hg : Rng n T S C) (hK : ∀ i, i < n → (0 ≤ K i ∧ K i ≤ 7) ∧ (0 ≤ F i ∧ F i ≤ 9)) (hB : E.2 ≤ m) (hl : l ≤ 3)  : Ex E (d + 5) mX12_layMost 0 [.ref m, .int (i32 (l : Int)), .retAddr 0, .retAddr 0] [] h (fun r1 h1 => r1 = none ∧ (∃ g2 ρ2 kp2, MAt h1 m g2 K F T S C ρ2 kp2 ∧ (g2 31 = (rmo l (n, mm, K, F, T, S, C)).1 ∧ g2 32 = (rmo l (n, mm, K, F, T, S, C)).2) ∧ (g2 0 = (n : Int) ∧ g2 6 = mm) ∧ (∀ r, r ≠ 18 → r ≠ 19 → r ≠ 20 → ρ2 r = ρ r) ∧ ∀ t, t ≠ 0 → t ≠ 6 → t ≠ 24 → t ≠ 25 → t ≠ 31 → t ≠ 32 → g2 t = g t) ∧ Fr h h1 m (m + 23)) := by
  have hX : RX (n, mm, K, F, T, S, C) := ⟨hg, fun i hi => (hK i hi).2, hn6⟩
  have hst := stp_r hX
  have hnv := nch_v (S := S) (3 * n) 0
  by_cases q0 : l = 0
  · refine Ex_aload_n dX12_layMost_0 rfl rfl ?_
    refine Ex_iconst dX12_layMost_1 rfl ?_
    refine Ex_put12 (k0 := 31) (v := (-1)) dX12_layMost_2 rfl (ma0 M) rfl rfl rfl rfl rfl (by omega) rfl ?_
    refine mg0 M ?_
    intro h1_ M1_ f1_
    refine Ex_aload_n dX12_layMost_5 rfl rfl ?_
    refine Ex_bipush dX12_layMost_6 rfl (by decide) ?_
    refine Ex_put12 (k0 := 32) (v := (-4)) dX12_layMost_8 rfl (ma0 M1_) rfl rfl rfl rfl rfl (by omega) rfl ?_
    refine mg0 M1_ ?_
    intro h2_ M2_ f2_
    refine Ex_iconst dX12_layMost_11 rfl ?_
    refine Ex_istore_n (L2 := [_, _, _, _]) dX12_layMost_12 rfl rfl rfl ?_
    refine Ex_aload_n dX12_layMost_13 rfl rfl ?_
    refine Ex_iconst dX12_layMost_14 rfl ?_
    refine Ex_inv 2 dX12_layMost_15 rfl rfl (Or.inl rfl) rfl rfl rfl rfl (ma0 M2_) rfl rfl rfl (Ex_post (x12_keepStage (s := 0) M2_ (show fu (fu g 31 (-1)) 32 (-4) 0 = (n : Int) from hn) (show fu (fu g 31 (-1)) 32 (-4) 6 = mm from h6) hB (by omega)) ?_)
    rintro _ h3_ ⟨rfl, ⟨gC, ρC, kpC, M3_, pC, oC, eρC, eC⟩, f3_⟩
    refine Ex_aload_n dX12_layMost_18 rfl rfl ?_
    refine Ex_getf dX12_layMost_19 rfl (ma0 M3_) rfl rfl rfl ?_
    refine Ex_iconst dX12_layMost_22 rfl ?_
    refine Ex_iconst dX12_layMost_23 rfl ?_
    refine Ex_iast12 (c := 0) dX12_layMost_24 rfl (ma20 M3_) rfl (by omega) (by omega) ?_
    refine mg20 M3_ ?_
    intro h4_ M4_ f4_
    refine Ex_iload_n dX12_layMost_25 rfl rfl ?_
    refine Ex_if_eq (t := 37) dX12_layMost_26 rfl rfl (by omega) (fun c26 => ?_) (fun c26 => absurd c26 (by omega))
    refine Ex_aload_n dX12_layMost_37 rfl rfl ?_
    refine Ex_aload_n dX12_layMost_38 rfl rfl ?_
    refine Ex_inv 2 dX12_layMost_39 rfl rfl (Or.inl rfl) rfl rfl rfl rfl (ma0 M4_) rfl rfl rfl (Ex_post (x12_allSteps M4_ (show gC 0 = (n : Int) by rw [eC 0 (by decide) (by decide)]; exact hn) hn6 hg) ?_)
    rintro _ _ ⟨rfl, e0⟩
    obtain rfl := Eq.symm e0
    rw [show sm S 0 n = stp (n, mm, K, F, T, S, C) from rfl]
    refine Ex_put12 (k0 := 31) (v := (stp (n, mm, K, F, T, S, C))) dX12_layMost_42 rfl (ma0 M4_) rfl rfl rfl rfl rfl (by omega) rfl ?_
    refine mg0 M4_ ?_
    intro h5_ M5_ f5_
    refine Ex_vret dX12_layMost_45 rfl ?_
    have er : rmo l (n, mm, K, F, T, S, C) = (stp (n, mm, K, F, T, S, C), -4) := if_pos (Or.inl q0)
    rw [er]
    refine ⟨rfl, ⟨_, _, _, M5_, ⟨rfl, ?_⟩, ⟨?_, ?_⟩, (fun r q1 q2 q3 => by rw [fuR_ne q3, eρC r q1 q2]), fun t q1 q2 q3 q4 q5 q6 => ?_⟩, (f1_.trans (f2_.trans (f3_.trans (f4_.trans f5_))))⟩
    · show gC 32 = -4
      rw [eC 32 (by decide) (by decide)]
      rfl
    · show gC 0 = (n : Int)
      rw [eC 0 (by decide) (by decide)]
      exact hn
    · show gC 6 = mm
      rw [eC 6 (by decide) (by decide)]
      exact h6
    · rw [fu_ne q5, eC t q3 q4, fu_ne q6, fu_ne q5]
  by_cases q1 : nch S 0 (3 * n) < 0
  · refine Ex_aload_n dX12_layMost_0 rfl rfl ?_
    refine Ex_iconst dX12_layMost_1 rfl ?_
    refine Ex_put12 (k0 := 31) (v := (-1)) dX12_layMost_2 rfl (ma0 M) rfl rfl rfl rfl rfl (by omega) rfl ?_
    refine mg0 M ?_
    intro h1_ M1_ f1_
    refine Ex_aload_n dX12_layMost_5 rfl rfl ?_
    refine Ex_bipush dX12_layMost_6 rfl (by decide) ?_
    refine Ex_put12 (k0 := 32) (v := (-4)) dX12_layMost_8 rfl (ma0 M1_) rfl rfl rfl rfl rfl (by omega) rfl ?_
    refine mg0 M1_ ?_
    intro h2_ M2_ f2_
    refine Ex_iconst dX12_layMost_11 rfl ?_
    refine Ex_istore_n (L2 := [_, _, _, _]) dX12_layMost_12 rfl rfl rfl ?_
    refine Ex_aload_n dX12_layMost_13 rfl rfl ?_
    refine Ex_iconst dX12_layMost_14 rfl ?_
    refine Ex_inv 2 dX12_layMost_15 rfl rfl (Or.inl rfl) rfl rfl rfl rfl (ma0 M2_) rfl rfl rfl (Ex_post (x12_keepStage (s := 0) M2_ (show fu (fu g 31 (-1)) 32 (-4) 0 = (n : Int) from hn) (show fu (fu g 31 (-1)) 32 (-4) 6 = mm from h6) hB (by omega)) ?_)
    rintro _ h3_ ⟨rfl, ⟨gC, ρC, kpC, M3_, pC, oC, eρC, eC⟩, f3_⟩
    refine Ex_aload_n dX12_layMost_18 rfl rfl ?_
    refine Ex_getf dX12_layMost_19 rfl (ma0 M3_) rfl rfl rfl ?_
    refine Ex_iconst dX12_layMost_22 rfl ?_
    refine Ex_iconst dX12_layMost_23 rfl ?_
    refine Ex_iast12 (c := 0) dX12_layMost_24 rfl (ma20 M3_) rfl (by omega) (by omega) ?_
    refine mg20 M3_ ?_
    intro h4_ M4_ f4_
    refine Ex_iload_n dX12_layMost_25 rfl rfl ?_
    refine Ex_if_eq (t := 37) dX12_layMost_26 rfl rfl (by omega) (fun c26 => absurd c26 (by omega)) (fun c26 => ?_)
    refine Ex_aload_n dX12_layMost_29 rfl rfl ?_
    refine Ex_iconst dX12_layMost_30 rfl ?_
    refine Ex_inv 2 dX12_layMost_31 rfl rfl (Or.inl rfl) rfl rfl rfl rfl (ma0 M4_) rfl rfl rfl (Ex_post (x12_nextChoice (c := 0) M4_ (show gC 0 = (n : Int) by rw [eC 0 (by decide) (by decide)]; exact hn) hn6 hg (by omega)) ?_)
    rintro _ _ ⟨rfl, e0⟩
    obtain rfl := Eq.symm e0
    rw [Nat.sub_zero]
    refine Ex_if_ge (t := 46) dX12_layMost_34 rfl rfl (by omega) (fun c34 => absurd c34 (by omega)) (fun c34 => ?_)
    refine Ex_aload_n dX12_layMost_37 rfl rfl ?_
    refine Ex_aload_n dX12_layMost_38 rfl rfl ?_
    refine Ex_inv 2 dX12_layMost_39 rfl rfl (Or.inl rfl) rfl rfl rfl rfl (ma0 M4_) rfl rfl rfl (Ex_post (x12_allSteps M4_ (show gC 0 = (n : Int) by rw [eC 0 (by decide) (by decide)]; exact hn) hn6 hg) ?_)
    rintro _ _ ⟨rfl, e0⟩
    obtain rfl := Eq.symm e0
    rw [show sm S 0 n = stp (n, mm, K, F, T, S, C) from rfl]
    refine Ex_put12 (k0 := 31) (v := (stp (n, mm, K, F, T, S, C))) dX12_layMost_42 rfl (ma0 M4_) rfl rfl rfl rfl rfl (by omega) rfl ?_
    refine mg0 M4_ ?_
    intro h5_ M5_ f5_
    refine Ex_vret dX12_layMost_45 rfl ?_
    have er : rmo l (n, mm, K, F, T, S, C) = (stp (n, mm, K, F, T, S, C), -4) := if_pos (Or.inr q1)
    rw [er]
    refine ⟨rfl, ⟨_, _, _, M5_, ⟨rfl, ?_⟩, ⟨?_, ?_⟩, (fun r q1 q2 q3 => by rw [fuR_ne q3, eρC r q1 q2]), fun t q1 q2 q3 q4 q5 q6 => ?_⟩, (f1_.trans (f2_.trans (f3_.trans (f4_.trans f5_))))⟩
    · show gC 32 = -4
      rw [eC 32 (by decide) (by decide)]
      rfl
    · show gC 0 = (n : Int)
      rw [eC 0 (by decide) (by decide)]
      exact hn
    · show gC 6 = mm
      rw [eC 6 (by decide) (by decide)]
      exact h6
    · rw [fu_ne q5, eC t q3 q4, fu_ne q6, fu_ne q5]
  refine Ex_aload_n dX12_layMost_0 rfl rfl ?_
  refine Ex_iconst dX12_layMost_1 rfl ?_
  refine Ex_put12 (k0 := 31) (v := (-1)) dX12_layMost_2 rfl (ma0 M) rfl rfl rfl rfl rfl (by omega) rfl ?_
  refine mg0 M ?_
  intro h1_ M1_ f1_
  refine Ex_aload_n dX12_layMost_5 rfl rfl ?_
  refine Ex_bipush dX12_layMost_6 rfl (by decide) ?_
  refine Ex_put12 (k0 := 32) (v := (-4)) dX12_layMost_8 rfl (ma0 M1_) rfl rfl rfl rfl rfl (by omega) rfl ?_
  refine mg0 M1_ ?_
  intro h2_ M2_ f2_
  refine Ex_iconst dX12_layMost_11 rfl ?_
  refine Ex_istore_n (L2 := [_, _, _, _]) dX12_layMost_12 rfl rfl rfl ?_
  refine Ex_aload_n dX12_layMost_13 rfl rfl ?_
  refine Ex_iconst dX12_layMost_14 rfl ?_
  refine Ex_inv 2 dX12_layMost_15 rfl rfl (Or.inl rfl) rfl rfl rfl rfl (ma0 M2_) rfl rfl rfl (Ex_post (x12_keepStage (s := 0) M2_ (show fu (fu g 31 (-1)) 32 (-4) 0 = (n : Int) from hn) (show fu (fu g 31 (-1)) 32 (-4) 6 = mm from h6) hB (by omega)) ?_)
  rintro _ h3_ ⟨rfl, ⟨gC, ρC, kpC, M3_, pC, oC, eρC, eC⟩, f3_⟩
  refine Ex_aload_n dX12_layMost_18 rfl rfl ?_
  refine Ex_getf dX12_layMost_19 rfl (ma0 M3_) rfl rfl rfl ?_
  refine Ex_iconst dX12_layMost_22 rfl ?_
  refine Ex_iconst dX12_layMost_23 rfl ?_
  refine Ex_iast12 (c := 0) dX12_layMost_24 rfl (ma20 M3_) rfl (by omega) (by omega) ?_
  refine mg20 M3_ ?_
  intro h4_ M4_ f4_
  refine Ex_iload_n dX12_layMost_25 rfl rfl ?_
  refine Ex_if_eq (t := 37) dX12_layMost_26 rfl rfl (by omega) (fun c26 => absurd c26 (by omega)) (fun c26 => ?_)
  refine Ex_aload_n dX12_layMost_29 rfl rfl ?_
  refine Ex_iconst dX12_layMost_30 rfl ?_
  refine Ex_inv 2 dX12_layMost_31 rfl rfl (Or.inl rfl) rfl rfl rfl rfl (ma0 M4_) rfl rfl rfl (Ex_post (x12_nextChoice (c := 0) M4_ (show gC 0 = (n : Int) by rw [eC 0 (by decide) (by decide)]; exact hn) hn6 hg (by omega)) ?_)
  rintro _ _ ⟨rfl, e0⟩
  obtain rfl := Eq.symm e0
  rw [Nat.sub_zero]
  refine Ex_if_ge (t := 46) dX12_layMost_34 rfl rfl (by omega) (fun c34 => ?_) (fun c34 => absurd c34 (by omega))
  have c31 : gC 31 = -1 := by rw [eC 31 (by decide) (by decide)]; rfl
  have c32 : gC 32 = -4 := by rw [eC 32 (by decide) (by decide)]; rfl
  have hpC : ∀ t, t < 32 → fuR ρC 20 (fu (ρC 20) 0 (-1)) 18 (32 * 0 + t) = pk (n, mm, K, F, T, S, C) t := fun t ht => by rw [fuR_ne (by decide)]; exact pC t ht
  have er : rmo l (n, mm, K, F, T, S, C) = lfJ (fun j => lf (l - 1) (cd j)) (n, mm, K, F, T, S, C) 0 (-1, -4) (3 * n) := if_neg (fun z => by rcases z with z | z; exact q0 z; exact q1 z)
  refine x12_most_l hn6 hK hB hl (l - 1) 0 (by omega) (3 * n) 0 0 mm T S C gC _ _ _ _ _ _ _ h4_ _ (by omega) (by omega) (by omega) hg M4_ hpC (by rw [fuR_at, fu_at]; rfl) (fun z => absurd z (by decide)) (by rw [c31]; omega) (fun h2 g2 ρ2 kp2 K3 F3 T3 S3 C3 z1 z2 z3 z4 => ?_)
  rw [c31, c32] at z2
  have hp2 : ∀ t, t < 32 → ρ2 18 (32 * 0 + t) = pk (n, mm, K, F, T, S, C) t := fun t ht => by rw [z3.1 _ (by omega)]; exact hpC t ht
  refine Ex_iload_n dX12_layMost_46 rfl rfl ?_
  refine Ex_if_lt (t := 174) dX12_layMost_47 rfl rfl (by omega) (fun c47 => ?_) (fun c47 => absurd c47 (by omega))
  refine Ex_aload_n dX12_layMost_174 rfl rfl ?_
  refine Ex_iconst dX12_layMost_175 rfl ?_
  refine Ex_inv 2 dX12_layMost_176 rfl rfl (Or.inl rfl) rfl rfl rfl rfl (ma0 z1) rfl rfl rfl (Ex_post (x12_toStage (s := 0) z1 hB (by omega) hp2) ?_)
  rintro _ h51_ ⟨rfl, ⟨gA, ρA, kpA, M51_, gA06, eρA, eA⟩, f51_⟩
  refine Ex_vret dX12_layMost_179 rfl ?_
  refine ⟨rfl, ⟨gA, ρA, kpA, M51_, ⟨?_, ?_⟩, gA06, fun r q1 q2 q3 => ?_, fun t q1 q2 q3 q4 q5 q6 => ?_⟩, ((f1_.trans (f2_.trans (f3_.trans f4_))).trans (z4.trans f51_))⟩
  · rw [er, eA 31 (by decide) (by decide) (by decide) (by decide)]
    exact congrArg Prod.fst z2
  · rw [er, eA 32 (by decide) (by decide) (by decide) (by decide)]
    exact congrArg Prod.snd z2
  · rw [eρA r q2, z3.2.2.1 r q1 q2 q3, fuR_ne q3, eρC r q1 q2]
  · rw [eA t q3 q4 q1 q2, z3.2.2.2 t q1 q2 q3 q4 q5 q6, eC t q3 q4, fu_ne q6, fu_ne q5]
theorem x12_mostSteps {E : am_E} {d : Nat} {h : Hp} {m n : Nat} {mm hi : Int} {K F T S C : Nat → Int} {σ : Nat → Nat → Int} {p u : Int}  (I : MI h m (n, mm, K, F, T, S, C) hi σ) (hn6 : n ≤ 6) (hg : Rng n T S C) (hK : ∀ i, i < n → (0 ≤ K i ∧ K i ≤ 7) ∧ (0 ≤ F i ∧ F i ≤ 9)) (hB : E.2 ≤ m) (hp : (-2147483648 ≤ p ∧ p ≤ 2147483647)) (hu : (-2147483648 ≤ u ∧ u ≤ 2147483647))  : Ex E (d + 6) mX12_mostSteps 0 [.ref m, .int (i32 p), .int (i32 u)] [] h (fun r1 h1 => r1 = some (.int (i32 (an_mostSteps (n, mm, K, F, T, S, C) p u))) ∧ MI h1 m (n, mm, K, F, T, S, C) hi σ ∧ Fr h h1 m (m + 23)) := by
  obtain ⟨g, ρ, kp, M, hn, h6, h23, hσ⟩ := I
  have M : MAt h m g K F T S C ρ kp := M
  have hn : g 0 = (n : Int) := hn
  have h6 : g 6 = mm := h6
  by_cases q : (0 ≤ p ∧ p ≤ 3) ∧ (0 ≤ u ∧ u ≤ 1)
  · obtain ⟨p, rfl⟩ := Int.eq_ofNat_of_zero_le q.1.1
    by_cases qu : u = 0
    · refine Ex_aload_n dX12_mostSteps_0 rfl rfl ?_
      refine Ex_iconst dX12_mostSteps_1 rfl ?_
      refine Ex_put12 (k0 := 13) (v := 0) dX12_mostSteps_2 rfl (ma0 M) rfl rfl rfl rfl rfl (by omega) rfl ?_
      refine mg0 M ?_
      intro h1_ M1_ f1_
      refine Ex_iload_n dX12_mostSteps_5 rfl rfl ?_
      refine Ex_i2l dX12_mostSteps_6 rfl (by omega) ?_
      refine Ex_lconst (z := 0) dX12_mostSteps_7 rfl (by decide) ?_
      refine Ex_ldc2 (z := 3) dX12_mostSteps_8 rfl rfl ?_
      refine Ex_stat 0 dX12_mostSteps_11 rfl rfl (Or.inl rfl) rfl rfl rfl rfl rfl rfl (Ex_post (x12_in (by omega) (by omega) (by omega)) ?_)
      rintro _ _ ⟨rfl, e0⟩
      obtain rfl := Eq.symm e0
      refine Ex_if_eq (t := 27) dX12_mostSteps_14 rfl rfl (by omega) (fun c14 => absurd c14 (by omega)) (fun c14 => ?_)
      refine Ex_iload_n dX12_mostSteps_17 rfl rfl ?_
      refine Ex_i2l dX12_mostSteps_18 rfl (by omega) ?_
      refine Ex_lconst (z := 0) dX12_mostSteps_19 rfl (by decide) ?_
      refine Ex_lconst (z := 1) dX12_mostSteps_20 rfl (by decide) ?_
      refine Ex_stat 0 dX12_mostSteps_21 rfl rfl (Or.inl rfl) rfl rfl rfl rfl rfl rfl (Ex_post (x12_in (by omega) (by omega) (by omega)) ?_)
      rintro _ _ ⟨rfl, e0⟩
      obtain rfl := Eq.symm e0
      refine Ex_if_ne (t := 29) dX12_mostSteps_24 rfl rfl (by omega) (fun c24 => ?_) (fun c24 => absurd c24 (by omega))
      refine Ex_aload_n dX12_mostSteps_29 rfl rfl ?_
      refine Ex_iload_n dX12_mostSteps_30 rfl rfl ?_
      refine Ex_inv 2 dX12_mostSteps_31 rfl rfl (Or.inl rfl) rfl rfl rfl rfl (ma0 M1_) rfl rfl rfl (Ex_post (x12_layMost M1_ hn hn6 h6 hg hK hB (by omega)) ?_)
      rintro _ h2_ ⟨rfl, ⟨gL, ρL, kpL, M2_, ⟨y31, y32⟩, ⟨y0, y6⟩, yρ, yg⟩, f2_⟩
      refine Ex_iload_n dX12_mostSteps_34 rfl rfl ?_
      refine Ex_if_ne (t := 45) dX12_mostSteps_35 rfl rfl (by omega) (fun c35 => absurd c35 (by omega)) (fun c35 => ?_)
      refine Ex_aload_n dX12_mostSteps_38 rfl rfl ?_
      refine Ex_getf dX12_mostSteps_39 rfl (ma0 M2_) rfl rfl rfl ?_
      refine Ex_goto (t := 49) dX12_mostSteps_42 rfl ?_
      refine Ex_iret dX12_mostSteps_49 rfl rfl ?_
      have em := rmo_ok (w := u) (X := (n, mm, K, F, T, S, C)) (l := p) ⟨hg, fun i hi => (hK i hi).2, hn6⟩ q.2 (by omega)
      rw [em]
      refine ⟨ri ?_, ⟨gL, _, _, M2_, y0, y6, (by rw [yg 23 (by decide) (by decide) (by decide) (by decide) (by decide) (by decide)]; exact h23), fun j hj => by rw [yρ j (by omega) (by omega) (by omega)]; exact hσ j hj⟩, (f1_.trans f2_)⟩
      rw [if_pos qu, y31]
    · refine Ex_aload_n dX12_mostSteps_0 rfl rfl ?_
      refine Ex_iconst dX12_mostSteps_1 rfl ?_
      refine Ex_put12 (k0 := 13) (v := 0) dX12_mostSteps_2 rfl (ma0 M) rfl rfl rfl rfl rfl (by omega) rfl ?_
      refine mg0 M ?_
      intro h1_ M1_ f1_
      refine Ex_iload_n dX12_mostSteps_5 rfl rfl ?_
      refine Ex_i2l dX12_mostSteps_6 rfl (by omega) ?_
      refine Ex_lconst (z := 0) dX12_mostSteps_7 rfl (by decide) ?_
      refine Ex_ldc2 (z := 3) dX12_mostSteps_8 rfl rfl ?_
      refine Ex_stat 0 dX12_mostSteps_11 rfl rfl (Or.inl rfl) rfl rfl rfl rfl rfl rfl (Ex_post (x12_in (by omega) (by omega) (by omega)) ?_)
      rintro _ _ ⟨rfl, e0⟩
      obtain rfl := Eq.symm e0
      refine Ex_if_eq (t := 27) dX12_mostSteps_14 rfl rfl (by omega) (fun c14 => absurd c14 (by omega)) (fun c14 => ?_)
      refine Ex_iload_n dX12_mostSteps_17 rfl rfl ?_
      refine Ex_i2l dX12_mostSteps_18 rfl (by omega) ?_
      refine Ex_lconst (z := 0) dX12_mostSteps_19 rfl (by decide) ?_
      refine Ex_lconst (z := 1) dX12_mostSteps_20 rfl (by decide) ?_
      refine Ex_stat 0 dX12_mostSteps_21 rfl rfl (Or.inl rfl) rfl rfl rfl rfl rfl rfl (Ex_post (x12_in (by omega) (by omega) (by omega)) ?_)
      rintro _ _ ⟨rfl, e0⟩
      obtain rfl := Eq.symm e0
      refine Ex_if_ne (t := 29) dX12_mostSteps_24 rfl rfl (by omega) (fun c24 => ?_) (fun c24 => absurd c24 (by omega))
      refine Ex_aload_n dX12_mostSteps_29 rfl rfl ?_
      refine Ex_iload_n dX12_mostSteps_30 rfl rfl ?_
      refine Ex_inv 2 dX12_mostSteps_31 rfl rfl (Or.inl rfl) rfl rfl rfl rfl (ma0 M1_) rfl rfl rfl (Ex_post (x12_layMost M1_ hn hn6 h6 hg hK hB (by omega)) ?_)
      rintro _ h2_ ⟨rfl, ⟨gL, ρL, kpL, M2_, ⟨y31, y32⟩, ⟨y0, y6⟩, yρ, yg⟩, f2_⟩
      refine Ex_iload_n dX12_mostSteps_34 rfl rfl ?_
      refine Ex_if_ne (t := 45) dX12_mostSteps_35 rfl rfl (by omega) (fun c35 => ?_) (fun c35 => absurd c35 (by omega))
      refine Ex_aload_n dX12_mostSteps_45 rfl rfl ?_
      refine Ex_getf dX12_mostSteps_46 rfl (ma0 M2_) rfl rfl rfl ?_
      refine Ex_iret dX12_mostSteps_49 rfl rfl ?_
      have em := rmo_ok (w := u) (X := (n, mm, K, F, T, S, C)) (l := p) ⟨hg, fun i hi => (hK i hi).2, hn6⟩ q.2 (by omega)
      rw [em]
      refine ⟨ri ?_, ⟨gL, _, _, M2_, y0, y6, (by rw [yg 23 (by decide) (by decide) (by decide) (by decide) (by decide) (by decide)]; exact h23), fun j hj => by rw [yρ j (by omega) (by omega) (by omega)]; exact hσ j hj⟩, (f1_.trans f2_)⟩
      rw [if_neg qu, y32]
  · have ea : an_mostSteps (n, mm, K, F, T, S, C) p u = -1 := if_neg q
    rw [ea]
    refine Ex_aload_n dX12_mostSteps_0 rfl rfl ?_
    refine Ex_iconst dX12_mostSteps_1 rfl ?_
    refine Ex_put12 (k0 := 13) (v := 0) dX12_mostSteps_2 rfl (ma0 M) rfl rfl rfl rfl rfl (by omega) rfl ?_
    refine mg0 M ?_
    intro h1_ M1_ f1_
    refine Ex_iload_n dX12_mostSteps_5 rfl rfl ?_
    refine Ex_i2l dX12_mostSteps_6 rfl (by omega) ?_
    refine Ex_lconst (z := 0) dX12_mostSteps_7 rfl (by decide) ?_
    refine Ex_ldc2 (z := 3) dX12_mostSteps_8 rfl rfl ?_
    refine Ex_stat 0 dX12_mostSteps_11 rfl rfl (Or.inl rfl) rfl rfl rfl rfl rfl rfl (Ex_post (x12_in (by omega) (by omega) (by omega)) ?_)
    rintro _ _ ⟨rfl, e0⟩
    obtain rfl := Eq.symm e0
    refine Ex_if_eq (t := 27) dX12_mostSteps_14 rfl rfl (by omega) (fun c14 => ?_) (fun c14 => ?_)
    · refine Ex_iconst dX12_mostSteps_27 rfl ?_
      refine Ex_iret dX12_mostSteps_28 rfl rfl ?_
      exact ⟨rfl, ⟨_, _, _, M1_, hn, h6, h23, hσ⟩, f1_⟩
    · refine Ex_iload_n dX12_mostSteps_17 rfl rfl ?_
      refine Ex_i2l dX12_mostSteps_18 rfl (by omega) ?_
      refine Ex_lconst (z := 0) dX12_mostSteps_19 rfl (by decide) ?_
      refine Ex_lconst (z := 1) dX12_mostSteps_20 rfl (by decide) ?_
      refine Ex_stat 0 dX12_mostSteps_21 rfl rfl (Or.inl rfl) rfl rfl rfl rfl rfl rfl (Ex_post (x12_in (by omega) (by omega) (by omega)) ?_)
      rintro _ _ ⟨rfl, e0⟩
      obtain rfl := Eq.symm e0
      refine Ex_if_ne (t := 29) dX12_mostSteps_24 rfl rfl (by omega) (fun c24 => ?_) (fun c24 => ?_)
      · exfalso; omega
      · refine Ex_iconst dX12_mostSteps_27 rfl ?_
        refine Ex_iret dX12_mostSteps_28 rfl rfl ?_
        exact ⟨rfl, ⟨_, _, _, M1_, hn, h6, h23, hσ⟩, f1_⟩
