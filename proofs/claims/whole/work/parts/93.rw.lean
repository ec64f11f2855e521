/-! the reference: stages of a search (by program: wip/whole/spec_rw.py) -/
/-- the next choice from c on: 3 times the child and the way -/
def nch (S : Nat → Int) (c : Nat) : Nat → Int
  | 0 => -4
  | k + 1 => if S (c / 3) = 7 then nch S (c + 1) k else (c : Int)
theorem nch_v {S : Nat → Int} : ∀ (k c : Nat), nch S c k = -4 ∨ (∃ b : Nat, nch S c k = (b : Int) ∧ c ≤ b ∧ b < c + k ∧ S (b / 3) ≠ 7)
  | 0, c => Or.inl rfl
  | k + 1, c => by
    simp only [nch]
    by_cases q : S (c / 3) = 7
    · rw [if_pos q]
      rcases nch_v k (c + 1) with h | ⟨b, h1, h2, h3, h4⟩
      · exact Or.inl h
      · exact Or.inr ⟨b, h1, by omega, by omega, h4⟩
    · rw [if_neg q]
      exact Or.inr ⟨c, rfl, Nat.le_refl _, by omega, q⟩
theorem x12_nch_l {E : am_E} {d : Nat} {h : Hp} {m n : Nat} {g K F T S C : Nat → Int} {ρ : Nat → Nat → Int} {kp : Value} {fr : Int}  (M : MAt h m g K F T S C ρ kp) (hn : g 0 = (n : Int)) (hn6 : n ≤ 6) (hg : Rng n T S C)  : ∀ (k : Nat) (c : Nat), c + k = 3 * n → Ex E d mX12_nextChoice 2 [.ref m, .int (i32 fr), .int (i32 (c : Int))] [] h (fun r1 h1 => r1 = some (.int (i32 (nch S c k))) ∧ h1 = h) := by
  intro k
  induction k with
  | zero =>
    intro c hk
    refine Ex_iload_n dX12_nextChoice_2 rfl rfl ?_
    refine Ex_iconst dX12_nextChoice_3 rfl ?_
    refine Ex_aload_n dX12_nextChoice_4 rfl rfl ?_
    refine Ex_getf dX12_nextChoice_5 rfl (ma0 M) rfl rfl rfl ?_
    rw [hn]
    refine Ex_imul dX12_nextChoice_8 rfl ?_
    refine Ex_icmp_ge (t := 31) dX12_nextChoice_9 rfl rfl (by omega) (fun c9 => ?_) (fun c9 => absurd c9 (by omega))
    refine Ex_iload_n dX12_nextChoice_31 rfl rfl ?_
    refine Ex_iconst dX12_nextChoice_32 rfl ?_
    refine Ex_aload_n dX12_nextChoice_33 rfl rfl ?_
    refine Ex_getf dX12_nextChoice_34 rfl (ma0 M) rfl rfl rfl ?_
    rw [hn]
    refine Ex_imul dX12_nextChoice_37 rfl ?_
    refine Ex_icmp_ge (t := 45) dX12_nextChoice_38 rfl rfl (by omega) (fun c38 => ?_) (fun c38 => absurd c38 (by omega))
    refine Ex_bipush dX12_nextChoice_45 rfl (by decide) ?_
    refine Ex_iret dX12_nextChoice_47 rfl rfl ?_
    exact ⟨rfl, rfl⟩
  | succ k ih =>
    intro c hk
    have hgc := hg (c / 3) (by omega)
    by_cases q : S (c / 3) = 7
    · have ea : nch S c (k + 1) = nch S (c + 1) k := if_pos q
      rw [ea]
      refine Ex_iload_n dX12_nextChoice_2 rfl rfl ?_
      refine Ex_iconst dX12_nextChoice_3 rfl ?_
      refine Ex_aload_n dX12_nextChoice_4 rfl rfl ?_
      refine Ex_getf dX12_nextChoice_5 rfl (ma0 M) rfl rfl rfl ?_
      rw [hn]
      refine Ex_imul dX12_nextChoice_8 rfl ?_
      refine Ex_icmp_ge (t := 31) dX12_nextChoice_9 rfl rfl (by omega) (fun c9 => absurd c9 (by omega)) (fun c9 => ?_)
      refine Ex_aload_n dX12_nextChoice_12 rfl rfl ?_
      refine Ex_getf dX12_nextChoice_13 rfl (ma0 M) rfl rfl rfl ?_
      refine Ex_iload_n dX12_nextChoice_16 rfl rfl ?_
      refine Ex_iconst dX12_nextChoice_17 rfl ?_
      refine Ex_idiv dX12_nextChoice_18 rfl (by omega) (by omega) ?_
      skip
      refine Ex_iald12 (c := (c / 3)) dX12_nextChoice_19 rfl (ma4 M) (by omega) (by omega) ?_
      refine Ex_bipush dX12_nextChoice_20 rfl (by decide) ?_
      refine Ex_icmp_ne (t := 31) dX12_nextChoice_22 rfl rfl (by omega) (fun c22 => absurd c22 (by omega)) (fun c22 => ?_)
      refine Ex_iinc (L2 := [_, _, _]) dX12_nextChoice_25 rfl rfl rfl ?_
      refine Ex_goto (t := 2) dX12_nextChoice_28 rfl ?_
      exact ih (c + 1) (by omega)
    · have ea : nch S c (k + 1) = (c : Int) := if_neg q
      rw [ea]
      refine Ex_iload_n dX12_nextChoice_2 rfl rfl ?_
      refine Ex_iconst dX12_nextChoice_3 rfl ?_
      refine Ex_aload_n dX12_nextChoice_4 rfl rfl ?_
      refine Ex_getf dX12_nextChoice_5 rfl (ma0 M) rfl rfl rfl ?_
      rw [hn]
      refine Ex_imul dX12_nextChoice_8 rfl ?_
      refine Ex_icmp_ge (t := 31) dX12_nextChoice_9 rfl rfl (by omega) (fun c9 => absurd c9 (by omega)) (fun c9 => ?_)
      refine Ex_aload_n dX12_nextChoice_12 rfl rfl ?_
      refine Ex_getf dX12_nextChoice_13 rfl (ma0 M) rfl rfl rfl ?_
      refine Ex_iload_n dX12_nextChoice_16 rfl rfl ?_
      refine Ex_iconst dX12_nextChoice_17 rfl ?_
      refine Ex_idiv dX12_nextChoice_18 rfl (by omega) (by omega) ?_
      refine Ex_iald12 (c := (c / 3)) dX12_nextChoice_19 rfl (ma4 M) (by omega) (by omega) ?_
      refine Ex_bipush dX12_nextChoice_20 rfl (by decide) ?_
      refine Ex_icmp_ne (t := 31) dX12_nextChoice_22 rfl rfl (by omega) (fun c22 => ?_) (fun c22 => absurd c22 (by omega))
      refine Ex_iload_n dX12_nextChoice_31 rfl rfl ?_
      refine Ex_iconst dX12_nextChoice_32 rfl ?_
      refine Ex_aload_n dX12_nextChoice_33 rfl rfl ?_
      refine Ex_getf dX12_nextChoice_34 rfl (ma0 M) rfl rfl rfl ?_
      rw [hn]
      refine Ex_imul dX12_nextChoice_37 rfl ?_
      refine Ex_icmp_ge (t := 45) dX12_nextChoice_38 rfl rfl (by omega) (fun c38 => absurd c38 (by omega)) (fun c38 => ?_)
      refine Ex_iload_n dX12_nextChoice_41 rfl rfl ?_
      refine Ex_goto (t := 47) dX12_nextChoice_42 rfl ?_
      refine Ex_iret dX12_nextChoice_47 rfl rfl ?_
      exact ⟨rfl, rfl⟩
theorem x12_nextChoice {E : am_E} {d : Nat} {h : Hp} {m n : Nat} {g K F T S C : Nat → Int} {ρ : Nat → Nat → Int} {kp : Value} {c : Nat}  (M : MAt h m g K F T S C ρ kp) (hn : g 0 = (n : Int)) (hn6 : n ≤ 6) (hg : Rng n T S C) (hc : c ≤ 3 * n)  : Ex E d mX12_nextChoice 0 [.ref m, .int (i32 (c : Int)), .retAddr 0] [] h (fun r1 h1 => r1 = some (.int (i32 (nch S c (3 * n - c)))) ∧ h1 = h) := by
  refine Ex_iload_n dX12_nextChoice_0 rfl rfl ?_
  refine Ex_istore_n (L2 := [_, _, _]) dX12_nextChoice_1 rfl rfl rfl ?_
  exact x12_nch_l M hn hn6 hg (3 * n - c) c (by omega)
theorem x12_ks_l {E : am_E} {d m s : Nat} {g K F T S C : Nat → Int} {kp : Value} (hB : E.2 ≤ m) (hs : s < 3) : ∀ (k i : Nat) (ρ : Nat → Nat → Int) (h : Hp), i + k = 32 → MAt h m g K F T S C ρ kp → Ex E (d + 2) mX12_keepStage 11 [.ref m, .int (i32 (s : Int)), .int (i32 (i : Int))] [] h (fun r1 h1 => r1 = none ∧ (∃ f2, MAt h1 m g K F T S C (fuR ρ 18 f2) kp ∧ (∀ t, i ≤ t → t < 32 → f2 (32 * s + t) = ρ 19 t) ∧ ∀ j, ¬ (32 * s + i ≤ j ∧ j < 32 * s + 32) → f2 j = ρ 18 j) ∧ Fr h h1 m (m + 23)) := by
  intro k
  induction k with
  | zero =>
    intro i ρ h hk M
    refine Ex_iload_n dX12_keepStage_11 rfl rfl ?_
    refine Ex_bipush dX12_keepStage_12 rfl (by decide) ?_
    refine Ex_icmp_ge (t := 40) dX12_keepStage_14 rfl rfl (by omega) (fun c14 => ?_) (fun c14 => absurd c14 (by omega))
    refine Ex_vret dX12_keepStage_40 rfl ?_
    exact ⟨rfl, ⟨ρ 18, by rw [fuR_same]; exact M, fun t h1 h2 => by omega, fun _ _ => rfl⟩, Fr.rf _ _ _⟩
  | succ k ih =>
    intro i ρ h hk M
    refine Ex_iload_n dX12_keepStage_11 rfl rfl ?_
    refine Ex_bipush dX12_keepStage_12 rfl (by decide) ?_
    refine Ex_icmp_ge (t := 40) dX12_keepStage_14 rfl rfl (by omega) (fun c14 => absurd c14 (by omega)) (fun c14 => ?_)
    refine Ex_aload_n dX12_keepStage_17 rfl rfl ?_
    refine Ex_getf dX12_keepStage_18 rfl (ma0 M) rfl rfl rfl ?_
    refine Ex_bipush dX12_keepStage_21 rfl (by decide) ?_
    refine Ex_iload_n dX12_keepStage_23 rfl rfl ?_
    refine Ex_imul dX12_keepStage_24 rfl ?_
    refine Ex_iload_n dX12_keepStage_25 rfl rfl ?_
    refine Ex_iadd dX12_keepStage_26 rfl ?_
    refine Ex_aload_n dX12_keepStage_27 rfl rfl ?_
    refine Ex_getf dX12_keepStage_28 rfl (ma0 M) rfl rfl rfl ?_
    refine Ex_iload_n dX12_keepStage_31 rfl rfl ?_
    refine Ex_iald12 (c := i) dX12_keepStage_32 rfl (ma19 M) rfl (by omega) ?_
    refine Ex_iast12 (c := (32 * s + i)) dX12_keepStage_33 rfl (ma18 M) (by omega) (by omega) (by omega) ?_
    refine mg18 M ?_
    intro h1_ M1_ f1_
    refine Ex_iinc (L2 := [_, _, _]) dX12_keepStage_34 rfl rfl rfl ?_
    refine Ex_goto (t := 11) dX12_keepStage_37 rfl ?_
    refine Ex_post (ih (i + 1) _ _ (by omega) M1_) ?_
    rintro r1 h1 ⟨rfl, ⟨f2, y1, y2, y3⟩, y4⟩
    rw [fuR_fuR] at y1
    refine ⟨rfl, ⟨f2, y1, fun t z1 z2 => ?_, fun j z => ?_⟩, f1_.trans y4⟩
    · by_cases e : t = i
      · rw [y3 _ (by omega), fuR_at, e, fu_at]
      · rw [y2 t (by omega) z2, fuR_ne (by decide)]
    · rw [y3 j (by omega), fuR_at, fu_ne (by omega)]
theorem x12_keepStage {E : am_E} {d : Nat} {h : Hp} {m n s : Nat} {mm : Int} {g K F T S C : Nat → Int} {ρ : Nat → Nat → Int} {kp : Value}  (M : MAt h m g K F T S C ρ kp) (hn : g 0 = (n : Int)) (h6 : g 6 = mm) (hB : E.2 ≤ m) (hs : s < 3)  : Ex E (d + 2) mX12_keepStage 0 [.ref m, .int (i32 (s : Int)), .retAddr 0] [] h (fun r1 h1 => r1 = none ∧ (∃ g2 ρ2 kp2, MAt h1 m g2 K F T S C ρ2 kp2 ∧ (∀ t, t < 32 → ρ2 18 (32 * s + t) = pk (n, mm, K, F, T, S, C) t) ∧ (∀ j, ¬ (32 * s ≤ j ∧ j < 32 * s + 32) → ρ2 18 j = ρ 18 j) ∧ (∀ j, j ≠ 18 → j ≠ 19 → ρ2 j = ρ j) ∧ ∀ k, k ≠ 24 → k ≠ 25 → g2 k = g k) ∧ Fr h h1 m (m + 23)) := by
  refine Ex_aload_n dX12_keepStage_0 rfl rfl ?_
  refine Ex_aload_n dX12_keepStage_1 rfl rfl ?_
  refine Ex_getf dX12_keepStage_2 rfl (ma0 M) rfl rfl rfl ?_
  refine Ex_iconst dX12_keepStage_5 rfl ?_
  refine Ex_inv 2 dX12_keepStage_6 rfl rfl (Or.inl rfl) rfl rfl rfl rfl (ma0 M) rfl rfl rfl (Ex_post (x12_allT19 M hn h6 hB) ?_)
  rintro _ h1_ ⟨rfl, ⟨g2, f2, M1_, hf2, e2⟩, f1_⟩
  refine Ex_iconst dX12_keepStage_9 rfl ?_
  refine Ex_istore_n (L2 := [_, _, _]) dX12_keepStage_10 rfl rfl rfl ?_
  refine Ex_post (x12_ks_l hB hs 32 0 _ h1_ (by omega) M1_) ?_
  rintro r1 h1 ⟨rfl, ⟨f3, y1, y2, y3⟩, y4⟩
  refine ⟨rfl, ⟨g2, _, _, y1, fun t ht => ?_, fun j hj => ?_, fun j j1 j2 => ?_, e2⟩, f1_.trans y4⟩
  · rw [fuR_at, y2 t (by omega) ht, fuR_at, hf2 t ht]
  · rw [fuR_at, y3 j (by omega), fuR_ne (by decide)]
  · rw [fuR_ne j1, fuR_ne j2]
theorem x12_ts_l {E : am_E} {d m s : Nat} {g K F T S C : Nat → Int} {kp : Value} {Q : Option Value → Hp → Prop} (hB : E.2 ≤ m) (hs : s < 3) : ∀ (k i : Nat) (ρ : Nat → Nat → Int) (h : Hp), i + k = 32 → MAt h m g K F T S C ρ kp → (∀ (h2 : Hp) (f2 : Nat → Int), MAt h2 m g K F T S C (fuR ρ 19 f2) kp → (∀ t, i ≤ t → t < 32 → f2 t = ρ 18 (32 * s + t)) → (∀ t, t < i → f2 t = ρ 19 t) → Fr h h2 m (m + 23) → Ex E (d + 2) mX12_toStage 31 [.ref m, .int (i32 (s : Int)), .int (i32 32)] [] h2 Q) → Ex E (d + 2) mX12_toStage 2 [.ref m, .int (i32 (s : Int)), .int (i32 (i : Int))] [] h Q := by
  intro k
  induction k with
  | zero =>
    intro i ρ h hk M kont
    obtain rfl : i = 32 := by omega
    refine Ex_iload_n dX12_toStage_2 rfl rfl ?_
    refine Ex_bipush dX12_toStage_3 rfl (by decide) ?_
    refine Ex_icmp_ge (t := 31) dX12_toStage_5 rfl rfl (by omega) (fun c5 => ?_) (fun c5 => absurd c5 (by omega))
    exact kont h (ρ 19) (by rw [fuR_same]; exact M) (fun t h1 h2 => by omega) (fun _ _ => rfl) (Fr.rf _ _ _)
  | succ k ih =>
    intro i ρ h hk M kont
    refine Ex_iload_n dX12_toStage_2 rfl rfl ?_
    refine Ex_bipush dX12_toStage_3 rfl (by decide) ?_
    refine Ex_icmp_ge (t := 31) dX12_toStage_5 rfl rfl (by omega) (fun c5 => absurd c5 (by omega)) (fun c5 => ?_)
    refine Ex_aload_n dX12_toStage_8 rfl rfl ?_
    refine Ex_getf dX12_toStage_9 rfl (ma0 M) rfl rfl rfl ?_
    refine Ex_iload_n dX12_toStage_12 rfl rfl ?_
    refine Ex_aload_n dX12_toStage_13 rfl rfl ?_
    refine Ex_getf dX12_toStage_14 rfl (ma0 M) rfl rfl rfl ?_
    refine Ex_bipush dX12_toStage_17 rfl (by decide) ?_
    refine Ex_iload_n dX12_toStage_19 rfl rfl ?_
    refine Ex_imul dX12_toStage_20 rfl ?_
    refine Ex_iload_n dX12_toStage_21 rfl rfl ?_
    refine Ex_iadd dX12_toStage_22 rfl ?_
    refine Ex_iald12 (c := (32 * s + i)) dX12_toStage_23 rfl (ma18 M) (by omega) (by omega) ?_
    refine Ex_iast12 (c := i) dX12_toStage_24 rfl (ma19 M) rfl (by omega) (by omega) ?_
    refine mg19 M ?_
    intro h1_ M1_ f1_
    refine Ex_iinc (L2 := [_, _, _]) dX12_toStage_25 rfl rfl rfl ?_
    refine Ex_goto (t := 2) dX12_toStage_28 rfl ?_
    refine ih (i + 1) _ _ (by omega) M1_ (fun h2 f2 y1 y2 y3 y4 => ?_)
    rw [fuR_fuR] at y1
    refine kont h2 f2 y1 (fun t z1 z2 => ?_) (fun t z => ?_) (f1_.trans y4)
    · by_cases e : t = i
      · rw [y3 _ (by omega), fuR_at, e, fu_at]
      · rw [y2 t (by omega) z2, fuR_ne (by decide)]
    · rw [y3 t (by omega), fuR_at, fu_ne (by omega)]
theorem x12_toStage {E : am_E} {d : Nat} {h : Hp} {m n s : Nat} {mm : Int} {g K F T S C K2 F2 T2 S2 C2 : Nat → Int} {ρ : Nat → Nat → Int} {kp : Value}  (M : MAt h m g K2 F2 T2 S2 C2 ρ kp) (hB : E.2 ≤ m) (hs : s < 3) (hf : ∀ t, t < 32 → ρ 18 (32 * s + t) = pk (n, mm, K, F, T, S, C) t)  : Ex E (d + 2) mX12_toStage 0 [.ref m, .int (i32 (s : Int)), .retAddr 0] [] h (fun r1 h1 => r1 = none ∧ (∃ g2 ρ2 kp2, MAt h1 m g2 K F T S C ρ2 kp2 ∧ (g2 0 = (n : Int) ∧ g2 6 = mm) ∧ (∀ j, j ≠ 19 → ρ2 j = ρ j) ∧ ∀ k, k ≠ 24 → k ≠ 25 → k ≠ 0 → k ≠ 6 → g2 k = g k) ∧ Fr h h1 m (m + 23)) := by
  refine Ex_iconst dX12_toStage_0 rfl ?_
  refine Ex_istore_n (L2 := [_, _, _]) dX12_toStage_1 rfl rfl rfl ?_
  refine x12_ts_l hB hs 32 0 ρ h (by omega) M (fun h2 f2 y1 y2 y3 y4 => ?_)
  refine Ex_aload_n dX12_toStage_31 rfl rfl ?_
  refine Ex_aload_n dX12_toStage_32 rfl rfl ?_
  refine Ex_getf dX12_toStage_33 rfl (ma0 y1) rfl rfl rfl ?_
  refine Ex_iconst dX12_toStage_36 rfl ?_
  refine Ex_inv 2 dX12_toStage_37 rfl rfl (Or.inl rfl) rfl rfl rfl rfl (ma0 y1) rfl rfl rfl (Ex_post (x12_allG19 y1 hB) ?_)
  rintro _ h9 ⟨rfl, ⟨g2, K3, F3, T3, S3, C3, z1, z2, z3, z4⟩, z5⟩
  refine Ex_vret dX12_toStage_40 rfl ?_
  have hf9 : ∀ i, i < 32 → fuR ρ 19 f2 19 i = pk (n, mm, K, F, T, S, C) i := fun i hi => by rw [fuR_at, y2 i (by omega) hi]; exact hf i hi
  exact ⟨rfl, ⟨g2, _, _, z1.cg (pk_back hf9 z2), ⟨by rw [z3.1, hf9 0 (by omega)]; rfl, by rw [z3.2, hf9 1 (by omega)]; rfl⟩, fun j hj => fuR_ne hj, z4⟩, y4.trans z5⟩
