/-! the reference: was, forged, judge (by program: wip/whole/spec_rl.py) -/
theorem x12_was_l {E : am_E} {d : Nat} {h : Hp} {m : Nat} {g K F T S C : Nat → Int} {ρ : Nat → Nat → Int} {kp : Value} {a : Nat} {v f u r5 : Int} {xs : List Int}  (M : MAt h m g K F T S C ρ kp) (ha : a < 8) (hv : 0 ≤ v ∧ v ≤ 20) (hf : 0 ≤ f ∧ f ≤ 9) (hu : 0 ≤ u ∧ u ≤ 1) (hlen : ρ 10 a = (xs.length : Int)) (hl2 : xs.length ≤ 100) (hx : ∀ i, i < xs.length → ρ 11 (100 * a + i) = xs.getD i 0 ∧ (-2147483648 ≤ xs.getD i 0 ∧ xs.getD i 0 ≤ 2147483647))  : ∀ (k : Nat) (c : Nat) (acc : Int) (v8 v9 : Value), c + k = 8 → 0 ≤ acc ∧ acc < (2 : Int) ^ c → Ex E (d + 2) mX12_was 65 [.ref m, .int (i32 (a : Int)), .int (i32 v), .int (i32 f), .int (i32 u), .int (i32 r5), .int (i32 acc), .int (i32 (c : Int)), v8, v9] [] h (fun r1 h1 => r1 = some (.int (i32 (if u = 0 then acc + bt (wsB xs v f) c k else pop (acc + bt (wsB xs v f) c k).toNat))) ∧ h1 = h) := by
  intro k
  induction k with
  | zero =>
    intro c acc v8 v9 hk hacc
    obtain rfl : c = 8 := by omega
    have e8 : (2 : Int) ^ 8 = 256 := rfl
    have hpr := pop_r acc.toNat
    by_cases hu0 : u = 0
    · rw [if_pos hu0]
      refine Ex_iload dX12_was_65 rfl rfl ?_
      refine Ex_bipush dX12_was_67 rfl (by decide) ?_
      refine Ex_icmp_ge (t := 164) dX12_was_69 rfl rfl (by omega) (fun c69 => ?_) (fun c69 => absurd c69 (by omega))
      refine Ex_iload dX12_was_164 rfl rfl ?_
      refine Ex_if_ne (t := 174) dX12_was_166 rfl rfl (by omega) (fun c166 => absurd c166 (by omega)) (fun c166 => ?_)
      refine Ex_iload dX12_was_169 rfl rfl ?_
      refine Ex_goto (t := 179) dX12_was_171 rfl ?_
      refine Ex_iret dX12_was_179 rfl rfl ?_
      exact ⟨ri (by show acc = acc + 0; omega), rfl⟩
    · rw [if_neg hu0]
      refine Ex_iload dX12_was_65 rfl rfl ?_
      refine Ex_bipush dX12_was_67 rfl (by decide) ?_
      refine Ex_icmp_ge (t := 164) dX12_was_69 rfl rfl (by omega) (fun c69 => ?_) (fun c69 => absurd c69 (by omega))
      refine Ex_iload dX12_was_164 rfl rfl ?_
      refine Ex_if_ne (t := 174) dX12_was_166 rfl rfl (by omega) (fun c166 => ?_) (fun c166 => absurd c166 (by omega))
      refine Ex_iload dX12_was_174 rfl rfl ?_
      rw [show acc = ((acc.toNat : Nat) : Int) by omega]
      refine Ex_stat 0 dX12_was_176 rfl rfl (Or.inl rfl) rfl rfl rfl rfl rfl rfl (Ex_post (x12_onesOf (by omega)) ?_)
      rintro _ _ ⟨rfl, e0⟩
      obtain rfl := Eq.symm e0
      refine Ex_iret dX12_was_179 rfl rfl ?_
      exact ⟨ri (by rw [show bt (wsB xs v f) 8 0 = 0 from rfl, Int.add_zero]; rfl), rfl⟩
  | succ k ih =>
    intro c acc v8 v9 hk hacc
    have hp2 := pow2_s c
    have hp3 := pow2_pos c
    cases hb : wsB xs v f c
    · skip
      refine Ex_iload dX12_was_65 rfl rfl ?_
      refine Ex_bipush dX12_was_67 rfl (by decide) ?_
      refine Ex_icmp_ge (t := 164) dX12_was_69 rfl rfl (by omega) (fun c69 => absurd c69 (by omega)) (fun c69 => ?_)
      refine Ex_iconst dX12_was_72 rfl ?_
      refine Ex_istore (L2 := [_, _, _, _, _, _, _, _, _, _]) dX12_was_73 rfl rfl rfl ?_
      refine Ex_iconst dX12_was_75 rfl ?_
      refine Ex_istore (L2 := [_, _, _, _, _, _, _, _, _, _]) dX12_was_76 rfl rfl rfl ?_
      refine x12_was_i M ha (by omega) hv hf hlen hl2 hx xs.length 0 true (by omega) (fun z9 => ?_)
      rw [show (true && tl xs v (sp_holds (c : Int) f) ((0 : Nat) : Int) xs.length) = wsB xs v f c from rfl, hb]
      rw [if_neg (show ¬ (false = true) by decide)]
      refine Ex_iload dX12_was_140 rfl rfl ?_
      refine Ex_iload dX12_was_142 rfl rfl ?_
      refine Ex_if_eq (t := 154) dX12_was_144 rfl rfl (by omega) (fun c144 => ?_) (fun c144 => absurd c144 (by omega))
      refine Ex_iconst dX12_was_154 rfl ?_
      refine Ex_ior (v := acc) dX12_was_155 rfl (i32_or0 acc) ?_
      refine Ex_istore (L2 := [_, _, _, _, _, _, _, _, _, _]) dX12_was_156 rfl rfl rfl ?_
      refine Ex_iinc (L2 := [_, _, _, _, _, _, _, _, _, _]) dX12_was_158 rfl rfl rfl ?_
      refine Ex_goto (t := 65) dX12_was_161 rfl ?_
      refine Ex_post (ih (c + 1) _ _ _ (by omega) ⟨by omega, by omega⟩) ?_
      rintro _ _ ⟨rfl, rfl⟩
      rw [show bt (wsB xs v f) c (k + 1) = (if wsB xs v f c then 2 ^ c else 0) + bt (wsB xs v f) (c + 1) k from rfl, hb, if_neg (show ¬ (false = true) by decide), Int.zero_add]
      exact ⟨rfl, rfl⟩
    · skip
      refine Ex_iload dX12_was_65 rfl rfl ?_
      refine Ex_bipush dX12_was_67 rfl (by decide) ?_
      refine Ex_icmp_ge (t := 164) dX12_was_69 rfl rfl (by omega) (fun c69 => absurd c69 (by omega)) (fun c69 => ?_)
      refine Ex_iconst dX12_was_72 rfl ?_
      refine Ex_istore (L2 := [_, _, _, _, _, _, _, _, _, _]) dX12_was_73 rfl rfl rfl ?_
      refine Ex_iconst dX12_was_75 rfl ?_
      refine Ex_istore (L2 := [_, _, _, _, _, _, _, _, _, _]) dX12_was_76 rfl rfl rfl ?_
      refine x12_was_i M ha (by omega) hv hf hlen hl2 hx xs.length 0 true (by omega) (fun z9 => ?_)
      rw [show (true && tl xs v (sp_holds (c : Int) f) ((0 : Nat) : Int) xs.length) = wsB xs v f c from rfl, hb]
      rw [if_pos (show true = true from rfl)]
      refine Ex_iload dX12_was_140 rfl rfl ?_
      refine Ex_iload dX12_was_142 rfl rfl ?_
      refine Ex_if_eq (t := 154) dX12_was_144 rfl rfl (by omega) (fun c144 => absurd c144 (by omega)) (fun c144 => ?_)
      refine Ex_iconst dX12_was_147 rfl ?_
      refine Ex_iload dX12_was_148 rfl rfl ?_
      refine Ex_ishl (v := ((2 : Int) ^ c)) dX12_was_150 rfl (shl_bit c (by omega)) ?_
      refine Ex_goto (t := 155) dX12_was_151 rfl ?_
      refine Ex_ior (v := (acc + (2 : Int) ^ c)) dX12_was_155 rfl (or_bitI (by omega) hacc) ?_
      refine Ex_istore (L2 := [_, _, _, _, _, _, _, _, _, _]) dX12_was_156 rfl rfl rfl ?_
      refine Ex_iinc (L2 := [_, _, _, _, _, _, _, _, _, _]) dX12_was_158 rfl rfl rfl ?_
      refine Ex_goto (t := 65) dX12_was_161 rfl ?_
      refine Ex_post (ih (c + 1) _ _ _ (by omega) ⟨by omega, by omega⟩) ?_
      rintro _ _ ⟨rfl, rfl⟩
      rw [show bt (wsB xs v f) c (k + 1) = (if wsB xs v f c then 2 ^ c else 0) + bt (wsB xs v f) (c + 1) k from rfl, hb, if_pos (show true = true from rfl), ← Int.add_assoc]
      exact ⟨rfl, rfl⟩
theorem x12_was {E : am_E} {d : Nat} {h : Hp} {m n : Nat} {mm hi : Int} {K F T S C : Nat → Int} {σ : Nat → Nat → Int} {hw ck cf rs : Nat → Int} {rx : Nat → List Int} {a v f u : Int}  (I : MI h m (n, mm, K, F, T, S, C) hi σ) (hn6 : n ≤ 6) (hg : Rng n T S C) (hK : ∀ i, i < n → (0 ≤ K i ∧ K i ≤ 7) ∧ (0 ≤ F i ∧ F i ≤ 9)) (hB : E.2 ≤ m) (V : Sv σ hw ck cf rs rx) (ha : (-2147483648 ≤ a ∧ a ≤ 2147483647)) (hv : (-2147483648 ≤ v ∧ v ≤ 2147483647)) (hf : (-2147483648 ≤ f ∧ f ≤ 2147483647)) (hu : (-2147483648 ≤ u ∧ u ≤ 2147483647))  : Ex E (d + 2) mX12_was 0 [.ref m, .int (i32 a), .int (i32 v), .int (i32 f), .int (i32 u), .retAddr 0, .retAddr 0, .retAddr 0, .retAddr 0, .retAddr 0] [] h (fun r1 h1 => r1 = some (.int (i32 (an_was hw rx a v f u))) ∧ (∃ σ2, MI h1 m (n, mm, K, F, T, S, C) hi σ2 ∧ Sv σ2 hw ck cf rs rx ∧ σ2 16 = σ 16) ∧ Fr h h1 m (m + 23)) := by
  obtain ⟨g, ρ, kp, M, hn, h6, h23, hσ⟩ := I
  have M : MAt h m g K F T S C ρ kp := M
  have hn : g 0 = (n : Int) := hn
  have h6 : g 6 = mm := h6
  have V : Sv ρ hw ck cf rs rx := V.cg hσ
  have h16 : ρ 16 = σ 16 := hσ 16 (Or.inr rfl)
  clear hσ
  have hσ : ∀ j, (6 ≤ j ∧ j ≤ 11) ∨ j = 16 → ρ j = ρ j := fun _ _ => rfl
  by_cases q : (0 ≤ a ∧ a ≤ 7) ∧ (0 ≤ v ∧ v ≤ 20) ∧ (0 ≤ f ∧ f ≤ 9) ∧ (0 ≤ u ∧ u ≤ 1)
  · by_cases q1 : hw a.toNat = 2
    · have ea : an_was hw rx a v f u = if u = 0 then bt (wsB (rx a.toNat) v f) 0 8 else pop (bt (wsB (rx a.toNat) v f) 0 8).toNat := by unfold an_was; rw [if_pos q]; exact if_pos q1
      rw [ea]
      obtain ⟨a, rfl⟩ := Int.eq_ofNat_of_zero_le q.1.1
      simp only [Int.toNat_natCast] at *
      obtain ⟨v6, v3, vk, vr⟩ := V a (by omega)
      obtain ⟨w1, w2, w3, w4⟩ := vr q1
      refine Ex_aload_n dX12_was_0 rfl rfl ?_
      refine Ex_iconst dX12_was_1 rfl ?_
      refine Ex_put12 (k0 := 13) (v := 0) dX12_was_2 rfl (ma0 M) rfl rfl rfl rfl rfl (by omega) rfl ?_
      refine mg0 M ?_
      intro h1_ M1_ f1_
      refine Ex_iload_n dX12_was_5 rfl rfl ?_
      refine Ex_i2l dX12_was_6 rfl (by omega) ?_
      refine Ex_lconst (z := 0) dX12_was_7 rfl (by decide) ?_
      refine Ex_ldc2 (z := 20) dX12_was_8 rfl rfl ?_
      refine Ex_stat 0 dX12_was_11 rfl rfl (Or.inl rfl) rfl rfl rfl rfl rfl rfl (Ex_post (x12_in (by omega) (by omega) (by omega)) ?_)
      rintro _ _ ⟨rfl, e0⟩
      obtain rfl := Eq.symm e0
      refine Ex_if_eq (t := 48) dX12_was_14 rfl rfl (by omega) (fun c14 => absurd c14 (by omega)) (fun c14 => ?_)
      refine Ex_iload_n dX12_was_17 rfl rfl ?_
      refine Ex_i2l dX12_was_18 rfl (by omega) ?_
      refine Ex_lconst (z := 0) dX12_was_19 rfl (by decide) ?_
      refine Ex_ldc2 (z := 9) dX12_was_20 rfl rfl ?_
      refine Ex_stat 0 dX12_was_23 rfl rfl (Or.inl rfl) rfl rfl rfl rfl rfl rfl (Ex_post (x12_in (by omega) (by omega) (by omega)) ?_)
      rintro _ _ ⟨rfl, e0⟩
      obtain rfl := Eq.symm e0
      refine Ex_if_eq (t := 48) dX12_was_26 rfl rfl (by omega) (fun c26 => absurd c26 (by omega)) (fun c26 => ?_)
      refine Ex_iload dX12_was_29 rfl rfl ?_
      refine Ex_i2l dX12_was_31 rfl (by omega) ?_
      refine Ex_lconst (z := 0) dX12_was_32 rfl (by decide) ?_
      refine Ex_lconst (z := 1) dX12_was_33 rfl (by decide) ?_
      refine Ex_stat 0 dX12_was_34 rfl rfl (Or.inl rfl) rfl rfl rfl rfl rfl rfl (Ex_post (x12_in (by omega) (by omega) (by omega)) ?_)
      rintro _ _ ⟨rfl, e0⟩
      obtain rfl := Eq.symm e0
      refine Ex_if_eq (t := 48) dX12_was_37 rfl rfl (by omega) (fun c37 => absurd c37 (by omega)) (fun c37 => ?_)
      refine Ex_aload_n dX12_was_40 rfl rfl ?_
      refine Ex_iload_n dX12_was_41 rfl rfl ?_
      refine Ex_inv 2 dX12_was_42 rfl rfl (Or.inl rfl) rfl rfl rfl rfl (ma0 M1_) rfl rfl rfl (Ex_post (x12_wR M1_ V (by omega)) ?_)
      rintro _ _ ⟨rfl, e0⟩
      obtain rfl := Eq.symm e0
      rw [if_pos ⟨q.1, q1⟩]
      refine Ex_goto (t := 49) dX12_was_45 rfl ?_
      refine Ex_istore (L2 := [_, _, _, _, _, _, _, _, _, _]) dX12_was_49 rfl rfl rfl ?_
      refine Ex_iload dX12_was_51 rfl rfl ?_
      refine Ex_if_ge (t := 59) dX12_was_53 rfl rfl (by omega) (fun c53 => ?_) (fun c53 => absurd c53 (by omega))
      refine Ex_iconst dX12_was_59 rfl ?_
      refine Ex_istore (L2 := [_, _, _, _, _, _, _, _, _, _]) dX12_was_60 rfl rfl rfl ?_
      refine Ex_iconst dX12_was_62 rfl ?_
      refine Ex_istore (L2 := [_, _, _, _, _, _, _, _, _, _]) dX12_was_63 rfl rfl rfl ?_
      refine Ex_post (x12_was_l M1_ (by omega) q.2.1 q.2.2.1 q.2.2.2 w2 w3 w4 8 0 0 _ _ (by omega) (by decide)) ?_
      rintro _ _ ⟨rfl, e9⟩
      rw [e9]
      exact ⟨ri (by simp only [Int.zero_add]), ⟨_, ⟨_, _, _, M1_, hn, h6, h23, fun _ _ => rfl⟩, V, h16⟩, f1_⟩
    · have gw := why_r (hw := hw) (a := a)
      have ea : an_was hw rx a v f u = why hw a := by unfold an_was; rw [if_pos q]; exact if_neg q1
      rw [ea]
      refine Ex_aload_n dX12_was_0 rfl rfl ?_
      refine Ex_iconst dX12_was_1 rfl ?_
      refine Ex_put12 (k0 := 13) (v := 0) dX12_was_2 rfl (ma0 M) rfl rfl rfl rfl rfl (by omega) rfl ?_
      refine mg0 M ?_
      intro h1_ M1_ f1_
      refine Ex_iload_n dX12_was_5 rfl rfl ?_
      refine Ex_i2l dX12_was_6 rfl (by omega) ?_
      refine Ex_lconst (z := 0) dX12_was_7 rfl (by decide) ?_
      refine Ex_ldc2 (z := 20) dX12_was_8 rfl rfl ?_
      refine Ex_stat 0 dX12_was_11 rfl rfl (Or.inl rfl) rfl rfl rfl rfl rfl rfl (Ex_post (x12_in (by omega) (by omega) (by omega)) ?_)
      rintro _ _ ⟨rfl, e0⟩
      obtain rfl := Eq.symm e0
      refine Ex_if_eq (t := 48) dX12_was_14 rfl rfl (by omega) (fun c14 => absurd c14 (by omega)) (fun c14 => ?_)
      refine Ex_iload_n dX12_was_17 rfl rfl ?_
      refine Ex_i2l dX12_was_18 rfl (by omega) ?_
      refine Ex_lconst (z := 0) dX12_was_19 rfl (by decide) ?_
      refine Ex_ldc2 (z := 9) dX12_was_20 rfl rfl ?_
      refine Ex_stat 0 dX12_was_23 rfl rfl (Or.inl rfl) rfl rfl rfl rfl rfl rfl (Ex_post (x12_in (by omega) (by omega) (by omega)) ?_)
      rintro _ _ ⟨rfl, e0⟩
      obtain rfl := Eq.symm e0
      refine Ex_if_eq (t := 48) dX12_was_26 rfl rfl (by omega) (fun c26 => absurd c26 (by omega)) (fun c26 => ?_)
      refine Ex_iload dX12_was_29 rfl rfl ?_
      refine Ex_i2l dX12_was_31 rfl (by omega) ?_
      refine Ex_lconst (z := 0) dX12_was_32 rfl (by decide) ?_
      refine Ex_lconst (z := 1) dX12_was_33 rfl (by decide) ?_
      refine Ex_stat 0 dX12_was_34 rfl rfl (Or.inl rfl) rfl rfl rfl rfl rfl rfl (Ex_post (x12_in (by omega) (by omega) (by omega)) ?_)
      rintro _ _ ⟨rfl, e0⟩
      obtain rfl := Eq.symm e0
      refine Ex_if_eq (t := 48) dX12_was_37 rfl rfl (by omega) (fun c37 => absurd c37 (by omega)) (fun c37 => ?_)
      refine Ex_aload_n dX12_was_40 rfl rfl ?_
      refine Ex_iload_n dX12_was_41 rfl rfl ?_
      refine Ex_inv 2 dX12_was_42 rfl rfl (Or.inl rfl) rfl rfl rfl rfl (ma0 M1_) rfl rfl rfl (Ex_post (x12_wR M1_ V (by omega)) ?_)
      rintro _ _ ⟨rfl, e0⟩
      obtain rfl := Eq.symm e0
      rw [if_neg (fun z => q1 z.2)]
      refine Ex_goto (t := 49) dX12_was_45 rfl ?_
      refine Ex_istore (L2 := [_, _, _, _, _, _, _, _, _, _]) dX12_was_49 rfl rfl rfl ?_
      refine Ex_iload dX12_was_51 rfl rfl ?_
      refine Ex_if_ge (t := 59) dX12_was_53 rfl rfl (by omega) (fun c53 => absurd c53 (by omega)) (fun c53 => ?_)
      refine Ex_iload dX12_was_56 rfl rfl ?_
      refine Ex_iret dX12_was_58 rfl rfl ?_
      exact ⟨rfl, ⟨_, ⟨_, _, _, M1_, hn, h6, h23, fun _ _ => rfl⟩, V, h16⟩, f1_⟩
  · have ea : an_was hw rx a v f u = -1 := by unfold an_was; exact if_neg q
    rw [ea]
    by_cases q0 : (0 ≤ v ∧ v ≤ 20) ∧ (0 ≤ f ∧ f ≤ 9) ∧ (0 ≤ u ∧ u ≤ 1)
    · have gw1 : why hw a = -1 := by unfold why; exact if_neg (fun z => q ⟨z, q0⟩)
      refine Ex_aload_n dX12_was_0 rfl rfl ?_
      refine Ex_iconst dX12_was_1 rfl ?_
      refine Ex_put12 (k0 := 13) (v := 0) dX12_was_2 rfl (ma0 M) rfl rfl rfl rfl rfl (by omega) rfl ?_
      refine mg0 M ?_
      intro h1_ M1_ f1_
      refine Ex_iload_n dX12_was_5 rfl rfl ?_
      refine Ex_i2l dX12_was_6 rfl (by omega) ?_
      refine Ex_lconst (z := 0) dX12_was_7 rfl (by decide) ?_
      refine Ex_ldc2 (z := 20) dX12_was_8 rfl rfl ?_
      refine Ex_stat 0 dX12_was_11 rfl rfl (Or.inl rfl) rfl rfl rfl rfl rfl rfl (Ex_post (x12_in (by omega) (by omega) (by omega)) ?_)
      rintro _ _ ⟨rfl, e0⟩
      obtain rfl := Eq.symm e0
      refine Ex_if_eq (t := 48) dX12_was_14 rfl rfl (by omega) (fun c14 => absurd c14 (by omega)) (fun c14 => ?_)
      refine Ex_iload_n dX12_was_17 rfl rfl ?_
      refine Ex_i2l dX12_was_18 rfl (by omega) ?_
      refine Ex_lconst (z := 0) dX12_was_19 rfl (by decide) ?_
      refine Ex_ldc2 (z := 9) dX12_was_20 rfl rfl ?_
      refine Ex_stat 0 dX12_was_23 rfl rfl (Or.inl rfl) rfl rfl rfl rfl rfl rfl (Ex_post (x12_in (by omega) (by omega) (by omega)) ?_)
      rintro _ _ ⟨rfl, e0⟩
      obtain rfl := Eq.symm e0
      refine Ex_if_eq (t := 48) dX12_was_26 rfl rfl (by omega) (fun c26 => absurd c26 (by omega)) (fun c26 => ?_)
      refine Ex_iload dX12_was_29 rfl rfl ?_
      refine Ex_i2l dX12_was_31 rfl (by omega) ?_
      refine Ex_lconst (z := 0) dX12_was_32 rfl (by decide) ?_
      refine Ex_lconst (z := 1) dX12_was_33 rfl (by decide) ?_
      refine Ex_stat 0 dX12_was_34 rfl rfl (Or.inl rfl) rfl rfl rfl rfl rfl rfl (Ex_post (x12_in (by omega) (by omega) (by omega)) ?_)
      rintro _ _ ⟨rfl, e0⟩
      obtain rfl := Eq.symm e0
      refine Ex_if_eq (t := 48) dX12_was_37 rfl rfl (by omega) (fun c37 => absurd c37 (by omega)) (fun c37 => ?_)
      refine Ex_aload_n dX12_was_40 rfl rfl ?_
      refine Ex_iload_n dX12_was_41 rfl rfl ?_
      refine Ex_inv 2 dX12_was_42 rfl rfl (Or.inl rfl) rfl rfl rfl rfl (ma0 M1_) rfl rfl rfl (Ex_post (x12_wR M1_ V (by omega)) ?_)
      rintro _ _ ⟨rfl, e0⟩
      obtain rfl := Eq.symm e0
      rw [if_neg (fun z => q ⟨z.1, q0⟩), gw1]
      refine Ex_goto (t := 49) dX12_was_45 rfl ?_
      refine Ex_istore (L2 := [_, _, _, _, _, _, _, _, _, _]) dX12_was_49 rfl rfl rfl ?_
      refine Ex_iload dX12_was_51 rfl rfl ?_
      refine Ex_if_ge (t := 59) dX12_was_53 rfl rfl (by omega) (fun c53 => absurd c53 (by omega)) (fun c53 => ?_)
      refine Ex_iload dX12_was_56 rfl rfl ?_
      refine Ex_iret dX12_was_58 rfl rfl ?_
      exact ⟨rfl, ⟨_, ⟨_, _, _, M1_, hn, h6, h23, fun _ _ => rfl⟩, V, h16⟩, f1_⟩
    · refine Ex_aload_n dX12_was_0 rfl rfl ?_
      refine Ex_iconst dX12_was_1 rfl ?_
      refine Ex_put12 (k0 := 13) (v := 0) dX12_was_2 rfl (ma0 M) rfl rfl rfl rfl rfl (by omega) rfl ?_
      refine mg0 M ?_
      intro h1_ M1_ f1_
      refine Ex_iload_n dX12_was_5 rfl rfl ?_
      refine Ex_i2l dX12_was_6 rfl (by omega) ?_
      refine Ex_lconst (z := 0) dX12_was_7 rfl (by decide) ?_
      refine Ex_ldc2 (z := 20) dX12_was_8 rfl rfl ?_
      refine Ex_stat 0 dX12_was_11 rfl rfl (Or.inl rfl) rfl rfl rfl rfl rfl rfl (Ex_post (x12_in (by omega) (by omega) (by omega)) ?_)
      rintro _ _ ⟨rfl, e0⟩
      obtain rfl := Eq.symm e0
      refine Ex_if_eq (t := 48) dX12_was_14 rfl rfl (by omega) (fun c14 => ?_) (fun c14 => ?_)
      · refine Ex_iconst dX12_was_48 rfl ?_
        refine Ex_istore (L2 := [_, _, _, _, _, _, _, _, _, _]) dX12_was_49 rfl rfl rfl ?_
        refine Ex_iload dX12_was_51 rfl rfl ?_
        refine Ex_if_ge (t := 59) dX12_was_53 rfl rfl (by omega) (fun c53 => absurd c53 (by omega)) (fun c53 => ?_)
        refine Ex_iload dX12_was_56 rfl rfl ?_
        refine Ex_iret dX12_was_58 rfl rfl ?_
        exact ⟨rfl, ⟨_, ⟨_, _, _, M1_, hn, h6, h23, fun _ _ => rfl⟩, V, h16⟩, f1_⟩
      · refine Ex_iload_n dX12_was_17 rfl rfl ?_
        refine Ex_i2l dX12_was_18 rfl (by omega) ?_
        refine Ex_lconst (z := 0) dX12_was_19 rfl (by decide) ?_
        refine Ex_ldc2 (z := 9) dX12_was_20 rfl rfl ?_
        refine Ex_stat 0 dX12_was_23 rfl rfl (Or.inl rfl) rfl rfl rfl rfl rfl rfl (Ex_post (x12_in (by omega) (by omega) (by omega)) ?_)
        rintro _ _ ⟨rfl, e0⟩
        obtain rfl := Eq.symm e0
        refine Ex_if_eq (t := 48) dX12_was_26 rfl rfl (by omega) (fun c26 => ?_) (fun c26 => ?_)
        · refine Ex_iconst dX12_was_48 rfl ?_
          refine Ex_istore (L2 := [_, _, _, _, _, _, _, _, _, _]) dX12_was_49 rfl rfl rfl ?_
          refine Ex_iload dX12_was_51 rfl rfl ?_
          refine Ex_if_ge (t := 59) dX12_was_53 rfl rfl (by omega) (fun c53 => absurd c53 (by omega)) (fun c53 => ?_)
          refine Ex_iload dX12_was_56 rfl rfl ?_
          refine Ex_iret dX12_was_58 rfl rfl ?_
          exact ⟨rfl, ⟨_, ⟨_, _, _, M1_, hn, h6, h23, fun _ _ => rfl⟩, V, h16⟩, f1_⟩
        · refine Ex_iload dX12_was_29 rfl rfl ?_
          refine Ex_i2l dX12_was_31 rfl (by omega) ?_
          refine Ex_lconst (z := 0) dX12_was_32 rfl (by decide) ?_
          refine Ex_lconst (z := 1) dX12_was_33 rfl (by decide) ?_
          refine Ex_stat 0 dX12_was_34 rfl rfl (Or.inl rfl) rfl rfl rfl rfl rfl rfl (Ex_post (x12_in (by omega) (by omega) (by omega)) ?_)
          rintro _ _ ⟨rfl, e0⟩
          obtain rfl := Eq.symm e0
          refine Ex_if_eq (t := 48) dX12_was_37 rfl rfl (by omega) (fun c37 => ?_) (fun c37 => ?_)
          · refine Ex_iconst dX12_was_48 rfl ?_
            refine Ex_istore (L2 := [_, _, _, _, _, _, _, _, _, _]) dX12_was_49 rfl rfl rfl ?_
            refine Ex_iload dX12_was_51 rfl rfl ?_
            refine Ex_if_ge (t := 59) dX12_was_53 rfl rfl (by omega) (fun c53 => absurd c53 (by omega)) (fun c53 => ?_)
            refine Ex_iload dX12_was_56 rfl rfl ?_
            refine Ex_iret dX12_was_58 rfl rfl ?_
            exact ⟨rfl, ⟨_, ⟨_, _, _, M1_, hn, h6, h23, fun _ _ => rfl⟩, V, h16⟩, f1_⟩
          · exfalso; omega
theorem x12_forged_e {E : am_E} {d : Nat} {h : Hp} {m n : Nat} {mt hi : Int} {K F T0 S0 C0 : Nat → Int} {σ : Nat → Nat → Int} {g K2 F2 T2 S2 C2 : Nat → Int} {ρ : Nat → Nat → Int} {kp : Value} {a : Nat} {xs : List Int} {i ans r2 l5 l7 v9 : Int}  (M : MAt h m g K2 F2 T2 S2 C2 ρ kp) (h23 : g 23 = hi) (hσ : ∀ j, (6 ≤ j ∧ j ≤ 11) ∨ j = 16 → ρ j = σ j) (hpk : ∀ i, i < 32 → ρ 15 i = pk (n, mt, K, F, T0, S0, C0) i) (hB : E.2 ≤ m) (ha : a < 8) (hi0 : 0 ≤ i ∧ i ≤ 1000) (hans : 0 ≤ ans ∧ ans ≤ 1000) (hlen : ρ 10 a = (xs.length : Int)) (hl2 : xs.length ≤ 100)  : Ex E (d + 5) mX12_forged 50 [.ref m, .int (i32 (a : Int)), .int (i32 r2), .int (i32 ans), .int (i32 i), .long (i64 l5), .retAddr 0, .long (i64 l7), .retAddr 0, .int (i32 v9)] [] h (fun r1 h1 => r1 = some (.int (i32 (ans))) ∧ MI h1 m (n, mt, K, F, T0, S0, C0) hi σ ∧ Fr h h1 m (m + 23)) := by
  by_cases q : ((xs.length / 2 : Nat) : Int) ≤ i
  · refine Ex_iload dX12_forged_50 rfl rfl ?_
    refine Ex_aload_n dX12_forged_52 rfl rfl ?_
    refine Ex_getf dX12_forged_53 rfl (ma0 M) rfl rfl rfl ?_
    refine Ex_iload_n dX12_forged_56 rfl rfl ?_
    refine Ex_iald12 (c := a) dX12_forged_57 rfl (ma10 M) (by omega) (by omega) ?_
    rw [hlen]
    refine Ex_iconst dX12_forged_58 rfl ?_
    refine Ex_idiv dX12_forged_59 rfl (by omega) (by omega) ?_
    refine Ex_icmp_ge (t := 183) dX12_forged_60 rfl rfl (by omega) (fun c60 => ?_) (fun c60 => absurd c60 (by omega))
    refine Ex_aload_n dX12_forged_183 rfl rfl ?_
    refine Ex_inv 2 dX12_forged_184 rfl rfl (Or.inl rfl) rfl rfl rfl rfl (ma0 M) rfl rfl rfl (Ex_post (x12_closeI M h23 hσ hpk hB) ?_)
    rintro _ h9 ⟨rfl, y1, y2⟩
    refine Ex_iload_n dX12_forged_187 rfl rfl ?_
    refine Ex_iret dX12_forged_188 rfl rfl ?_
    exact ⟨rfl, y1, y2⟩
  · refine Ex_iload dX12_forged_50 rfl rfl ?_
    refine Ex_aload_n dX12_forged_52 rfl rfl ?_
    refine Ex_getf dX12_forged_53 rfl (ma0 M) rfl rfl rfl ?_
    refine Ex_iload_n dX12_forged_56 rfl rfl ?_
    refine Ex_iald12 (c := a) dX12_forged_57 rfl (ma10 M) (by omega) (by omega) ?_
    rw [hlen]
    refine Ex_iconst dX12_forged_58 rfl ?_
    refine Ex_idiv dX12_forged_59 rfl (by omega) (by omega) ?_
    refine Ex_icmp_ge (t := 183) dX12_forged_60 rfl rfl (by omega) (fun c60 => absurd c60 (by omega)) (fun c60 => ?_)
    refine Ex_iload_n dX12_forged_63 rfl rfl ?_
    refine Ex_if_ge (t := 183) dX12_forged_64 rfl rfl (by omega) (fun c64 => ?_) (fun c64 => absurd c64 (by omega))
    refine Ex_aload_n dX12_forged_183 rfl rfl ?_
    refine Ex_inv 2 dX12_forged_184 rfl rfl (Or.inl rfl) rfl rfl rfl rfl (ma0 M) rfl rfl rfl (Ex_post (x12_closeI M h23 hσ hpk hB) ?_)
    rintro _ h9 ⟨rfl, y1, y2⟩
    refine Ex_iload_n dX12_forged_187 rfl rfl ?_
    refine Ex_iret dX12_forged_188 rfl rfl ?_
    exact ⟨rfl, y1, y2⟩
theorem x12_forged_l {E : am_E} {d : Nat} {m n : Nat} {mt hi : Int} {K F T0 S0 C0 : Nat → Int} {σ : Nat → Nat → Int} {a : Nat} {r2 : Int} {xs : List Int} (hn6 : n ≤ 6) (hK : ∀ i, i < n → (0 ≤ K i ∧ K i ≤ 7) ∧ (0 ≤ F i ∧ F i ≤ 9)) (hB : E.2 ≤ m) (ha : a < 8) (hl2 : xs.length ≤ 100) : ∀ (k i : Nat) (mi : Int) (T S C : Nat → Int) (g : Nat → Int) (ρ : Nat → Nat → Int) (kp : Value) (v5 v6 v7 v8 v9 : Value) (h : Hp), i + k = xs.length / 2 → MAt h m g K F T S C ρ kp → g 0 = (n : Int) → Rng n T S C → g 23 = hi → (∀ j, (6 ≤ j ∧ j ≤ 11) ∨ j = 16 → ρ j = σ j) → (∀ i, i < 32 → ρ 15 i = pk (n, mt, K, F, T0, S0, C0) i) → ρ 10 a = (xs.length : Int) → (∀ i, i < xs.length → ρ 11 (100 * a + i) = xs.getD i 0 ∧ (-2147483648 ≤ xs.getD i 0 ∧ xs.getD i 0 ≤ 2147483647)) → Ex E (d + 5) mX12_forged 50 [.ref m, .int (i32 (a : Int)), .int (i32 r2), .int (i32 (-4)), .int (i32 (i : Int)), v5, v6, v7, v8, v9] [] h (fun r1 h1 => r1 = some (.int (i32 (fgd xs (n, mi, K, F, T, S, C) (i : Int) k))) ∧ MI h1 m (n, mt, K, F, T0, S0, C0) hi σ ∧ Fr h h1 m (m + 23)) := by
  intro k
  induction k with
  | zero =>
    intro i mi T S C g ρ kp v5 v6 v7 v8 v9 h hk M hn hg h23 hσ hpk hlen hx
    refine Ex_iload dX12_forged_50 rfl rfl ?_
    refine Ex_aload_n dX12_forged_52 rfl rfl ?_
    refine Ex_getf dX12_forged_53 rfl (ma0 M) rfl rfl rfl ?_
    refine Ex_iload_n dX12_forged_56 rfl rfl ?_
    refine Ex_iald12 (c := a) dX12_forged_57 rfl (ma10 M) (by omega) (by omega) ?_
    rw [hlen]
    refine Ex_iconst dX12_forged_58 rfl ?_
    refine Ex_idiv dX12_forged_59 rfl (by omega) (by omega) ?_
    refine Ex_icmp_ge (t := 183) dX12_forged_60 rfl rfl (by omega) (fun c60 => ?_) (fun c60 => absurd c60 (by omega))
    refine Ex_aload_n dX12_forged_183 rfl rfl ?_
    refine Ex_inv 2 dX12_forged_184 rfl rfl (Or.inl rfl) rfl rfl rfl rfl (ma0 M) rfl rfl rfl (Ex_post (x12_closeI M h23 hσ hpk hB) ?_)
    rintro _ h9 ⟨rfl, y1, y2⟩
    refine Ex_iload_n dX12_forged_187 rfl rfl ?_
    refine Ex_iret dX12_forged_188 rfl rfl ?_
    exact ⟨rfl, y1, y2⟩
  | succ k ih =>
    intro i mi T S C g ρ kp v5 v6 v7 v8 v9 h hk M hn hg h23 hσ hpk hlen hx
    obtain ⟨g1, g2⟩ := gx_row hx (show 2 * i < xs.length by omega)
    obtain ⟨g3, g4⟩ := gx_row hx (show 2 * i + 1 < xs.length by omega)
    rw [show ((2 * i : Nat) : Int) = 2 * (i : Int) by omega] at g1 g2
    rw [show ((2 * i + 1 : Nat) : Int) = 2 * (i : Int) + 1 by omega] at g3 g4
    obtain ⟨z1, hz1⟩ : ∃ z, z = gx xs (2 * (i : Int)) := ⟨_, rfl⟩
    obtain ⟨z2, hz2⟩ : ∃ z, z = gx xs (2 * (i : Int) + 1) := ⟨_, rfl⟩
    have ea : fgd xs (n, mi, K, F, T, S, C) (i : Int) (k + 1) = if (0 ≤ z1 ∧ z1 < (n : Int)) ∧ S z1.toNat < 7 ∧ (0 ≤ z2 ∧ z2 ≤ 3) then fgd xs (rsM z1.toNat z2 (n, mi, K, F, T, S, C)) ((i : Int) + 1) k else (i : Int) := by rw [hz1, hz2]; rfl
    rw [ea]
    rw [← hz1] at g1 g2
    rw [← hz2] at g3 g4
    by_cases q : (0 ≤ z1 ∧ z1 < (n : Int)) ∧ S z1.toNat < 7 ∧ (0 ≤ z2 ∧ z2 ≤ 3)
    · rw [if_pos q]
      obtain ⟨c, rfl⟩ := Int.eq_ofNat_of_zero_le q.1.1
      simp only [Int.toNat_natCast] at *
      have rg9 := min_r (way := z2) (K := K) (F := F) hg (fun i hi => (hK i hi).2) (show c < n by omega) q.2.1
      have hgc := hg c (show c < n by omega)
      refine Ex_iload dX12_forged_50 rfl rfl ?_
      refine Ex_aload_n dX12_forged_52 rfl rfl ?_
      refine Ex_getf dX12_forged_53 rfl (ma0 M) rfl rfl rfl ?_
      refine Ex_iload_n dX12_forged_56 rfl rfl ?_
      refine Ex_iald12 (c := a) dX12_forged_57 rfl (ma10 M) rfl (by omega) ?_
      rw [hlen]
      refine Ex_iconst dX12_forged_58 rfl ?_
      refine Ex_idiv dX12_forged_59 rfl (by omega) (by omega) ?_
      refine Ex_icmp_ge (t := 183) dX12_forged_60 rfl rfl (by omega) (fun c60 => absurd c60 (by omega)) (fun c60 => ?_)
      refine Ex_iload_n dX12_forged_63 rfl rfl ?_
      refine Ex_if_ge (t := 183) dX12_forged_64 rfl rfl (by omega) (fun c64 => absurd c64 (by omega)) (fun c64 => ?_)
      refine Ex_aload_n dX12_forged_67 rfl rfl ?_
      refine Ex_getf dX12_forged_68 rfl (ma0 M) rfl rfl rfl ?_
      refine Ex_bipush dX12_forged_71 rfl (by decide) ?_
      refine Ex_iload_n dX12_forged_73 rfl rfl ?_
      refine Ex_imul dX12_forged_74 rfl ?_
      refine Ex_iconst dX12_forged_75 rfl ?_
      refine Ex_iload dX12_forged_76 rfl rfl ?_
      refine Ex_imul dX12_forged_78 rfl ?_
      refine Ex_iadd dX12_forged_79 rfl ?_
      refine Ex_lald12 (c := (100 * a + 2 * i)) dX12_forged_80 rfl (ma11 M) (by omega) (by omega) ?_
      rw [g1]
      refine Ex_lstore (L2 := [_, _, _, _, _, _, _, _, _, _]) dX12_forged_81 rfl rfl rfl ?_
      refine Ex_aload_n dX12_forged_83 rfl rfl ?_
      refine Ex_getf dX12_forged_84 rfl (ma0 M) rfl rfl rfl ?_
      refine Ex_bipush dX12_forged_87 rfl (by decide) ?_
      refine Ex_iload_n dX12_forged_89 rfl rfl ?_
      refine Ex_imul dX12_forged_90 rfl ?_
      refine Ex_iconst dX12_forged_91 rfl ?_
      refine Ex_iload dX12_forged_92 rfl rfl ?_
      refine Ex_imul dX12_forged_94 rfl ?_
      refine Ex_iadd dX12_forged_95 rfl ?_
      refine Ex_iconst dX12_forged_96 rfl ?_
      refine Ex_iadd dX12_forged_97 rfl ?_
      refine Ex_lald12 (c := (100 * a + (2 * i + 1))) dX12_forged_98 rfl (ma11 M) (by omega) (by omega) ?_
      rw [show 100 * a + (2 * i + 1) = 100 * a + (2 * i + 1) from rfl, g3]
      refine Ex_lstore (L2 := [_, _, _, _, _, _, _, _, _, _]) dX12_forged_99 rfl rfl rfl ?_
      refine Ex_lload dX12_forged_101 rfl rfl ?_
      refine Ex_lconst (z := 0) dX12_forged_103 rfl (by decide) ?_
      refine Ex_aload_n dX12_forged_104 rfl rfl ?_
      skip
      refine Ex_getf dX12_forged_105 rfl (ma0 M) rfl rfl rfl ?_
      rw [hn]
      refine Ex_iconst dX12_forged_108 rfl ?_
      refine Ex_isub dX12_forged_109 rfl ?_
      refine Ex_i2l dX12_forged_110 rfl (by omega) ?_
      refine Ex_stat 0 dX12_forged_111 rfl rfl (Or.inl rfl) rfl rfl rfl rfl rfl rfl (Ex_post (x12_in (by omega) (by omega) (by omega)) ?_)
      rintro _ _ ⟨rfl, e0⟩
      obtain rfl := Eq.symm e0
      refine Ex_if_eq (t := 146) dX12_forged_114 rfl rfl (by omega) (fun c114 => absurd c114 (by omega)) (fun c114 => ?_)
      refine Ex_lload dX12_forged_117 rfl rfl ?_
      refine Ex_lconst (z := 0) dX12_forged_119 rfl (by decide) ?_
      refine Ex_ldc2 (z := 3) dX12_forged_120 rfl rfl ?_
      refine Ex_stat 0 dX12_forged_123 rfl rfl (Or.inl rfl) rfl rfl rfl rfl rfl rfl (Ex_post (x12_in (by omega) (by omega) (by omega)) ?_)
      rintro _ _ ⟨rfl, e0⟩
      obtain rfl := Eq.symm e0
      refine Ex_if_eq (t := 146) dX12_forged_126 rfl rfl (by omega) (fun c126 => absurd c126 (by omega)) (fun c126 => ?_)
      refine Ex_aload_n dX12_forged_129 rfl rfl ?_
      refine Ex_getf dX12_forged_130 rfl (ma0 M) rfl rfl rfl ?_
      refine Ex_lload dX12_forged_133 rfl rfl ?_
      refine Ex_l2i dX12_forged_135 rfl ?_
      refine Ex_iald12 (c := c) dX12_forged_136 rfl (ma4 M) rfl (by omega) ?_
      refine Ex_bipush dX12_forged_137 rfl (by decide) ?_
      refine Ex_icmp_ge (t := 146) dX12_forged_139 rfl rfl (by omega) (fun c139 => absurd c139 (by omega)) (fun c139 => ?_)
      refine Ex_iconst dX12_forged_142 rfl ?_
      refine Ex_goto (t := 147) dX12_forged_143 rfl ?_
      refine Ex_istore (L2 := [_, _, _, _, _, _, _, _, _, _]) dX12_forged_147 rfl rfl rfl ?_
      refine Ex_iload dX12_forged_149 rfl rfl ?_
      refine Ex_if_eq (t := 164) dX12_forged_151 rfl rfl (by omega) (fun c151 => absurd c151 (by omega)) (fun c151 => ?_)
      refine Ex_aload_n dX12_forged_154 rfl rfl ?_
      refine Ex_lload dX12_forged_155 rfl rfl ?_
      refine Ex_l2i dX12_forged_157 rfl ?_
      refine Ex_lload dX12_forged_158 rfl rfl ?_
      refine Ex_l2i dX12_forged_160 rfl ?_
      refine Ex_inv 2 dX12_forged_161 rfl rfl (Or.inl rfl) rfl rfl rfl rfl (ma0 M) rfl rfl rfl (Ex_post (x12_goMinute M hn hn6 hg hK hB (by omega) q.2.1 (by omega)) ?_)
      rintro _ h1_ ⟨rfl, M1_, f1_⟩
      refine Ex_iload dX12_forged_164 rfl rfl ?_
      refine Ex_if_eq (t := 174) dX12_forged_166 rfl rfl (by omega) (fun c166 => absurd c166 (by omega)) (fun c166 => ?_)
      refine Ex_bipush dX12_forged_169 rfl (by decide) ?_
      refine Ex_goto (t := 176) dX12_forged_171 rfl ?_
      refine Ex_istore_n (L2 := [_, _, _, _, _, _, _, _, _, _]) dX12_forged_176 rfl rfl rfl ?_
      refine Ex_iinc (L2 := [_, _, _, _, _, _, _, _, _, _]) dX12_forged_177 rfl rfl rfl ?_
      refine Ex_goto (t := 50) dX12_forged_180 rfl ?_
      refine Ex_post (ih (i + 1) (mi + 1) _ _ _ _ _ _ _ _ _ _ _ h1_ (by omega) M1_ hn (rg9) h23 hσ hpk hlen hx) ?_
      rintro r1 h1 ⟨rfl, y1, y2⟩
      exact ⟨rfl, y1, f1_.trans y2⟩
    · rw [if_neg q]
      refine Ex_iload dX12_forged_50 rfl rfl ?_
      refine Ex_aload_n dX12_forged_52 rfl rfl ?_
      refine Ex_getf dX12_forged_53 rfl (ma0 M) rfl rfl rfl ?_
      refine Ex_iload_n dX12_forged_56 rfl rfl ?_
      refine Ex_iald12 (c := a) dX12_forged_57 rfl (ma10 M) rfl (by omega) ?_
      rw [hlen]
      refine Ex_iconst dX12_forged_58 rfl ?_
      refine Ex_idiv dX12_forged_59 rfl (by omega) (by omega) ?_
      refine Ex_icmp_ge (t := 183) dX12_forged_60 rfl rfl (by omega) (fun c60 => absurd c60 (by omega)) (fun c60 => ?_)
      refine Ex_iload_n dX12_forged_63 rfl rfl ?_
      refine Ex_if_ge (t := 183) dX12_forged_64 rfl rfl (by omega) (fun c64 => absurd c64 (by omega)) (fun c64 => ?_)
      refine Ex_aload_n dX12_forged_67 rfl rfl ?_
      refine Ex_getf dX12_forged_68 rfl (ma0 M) rfl rfl rfl ?_
      refine Ex_bipush dX12_forged_71 rfl (by decide) ?_
      refine Ex_iload_n dX12_forged_73 rfl rfl ?_
      refine Ex_imul dX12_forged_74 rfl ?_
      refine Ex_iconst dX12_forged_75 rfl ?_
      refine Ex_iload dX12_forged_76 rfl rfl ?_
      refine Ex_imul dX12_forged_78 rfl ?_
      refine Ex_iadd dX12_forged_79 rfl ?_
      refine Ex_lald12 (c := (100 * a + 2 * i)) dX12_forged_80 rfl (ma11 M) (by omega) (by omega) ?_
      rw [g1]
      refine Ex_lstore (L2 := [_, _, _, _, _, _, _, _, _, _]) dX12_forged_81 rfl rfl rfl ?_
      refine Ex_aload_n dX12_forged_83 rfl rfl ?_
      refine Ex_getf dX12_forged_84 rfl (ma0 M) rfl rfl rfl ?_
      refine Ex_bipush dX12_forged_87 rfl (by decide) ?_
      refine Ex_iload_n dX12_forged_89 rfl rfl ?_
      refine Ex_imul dX12_forged_90 rfl ?_
      refine Ex_iconst dX12_forged_91 rfl ?_
      refine Ex_iload dX12_forged_92 rfl rfl ?_
      refine Ex_imul dX12_forged_94 rfl ?_
      refine Ex_iadd dX12_forged_95 rfl ?_
      refine Ex_iconst dX12_forged_96 rfl ?_
      refine Ex_iadd dX12_forged_97 rfl ?_
      refine Ex_lald12 (c := (100 * a + (2 * i + 1))) dX12_forged_98 rfl (ma11 M) (by omega) (by omega) ?_
      rw [show 100 * a + (2 * i + 1) = 100 * a + (2 * i + 1) from rfl, g3]
      refine Ex_lstore (L2 := [_, _, _, _, _, _, _, _, _, _]) dX12_forged_99 rfl rfl rfl ?_
      refine Ex_lload dX12_forged_101 rfl rfl ?_
      refine Ex_lconst (z := 0) dX12_forged_103 rfl (by decide) ?_
      refine Ex_aload_n dX12_forged_104 rfl rfl ?_
      skip
      refine Ex_getf dX12_forged_105 rfl (ma0 M) rfl rfl rfl ?_
      rw [hn]
      refine Ex_iconst dX12_forged_108 rfl ?_
      refine Ex_isub dX12_forged_109 rfl ?_
      refine Ex_i2l dX12_forged_110 rfl (by omega) ?_
      refine Ex_stat 0 dX12_forged_111 rfl rfl (Or.inl rfl) rfl rfl rfl rfl rfl rfl (Ex_post (x12_in (by omega) (by omega) (by omega)) ?_)
      rintro _ _ ⟨rfl, e0⟩
      obtain rfl := Eq.symm e0
      refine Ex_if_eq (t := 146) dX12_forged_114 rfl rfl (by omega) (fun c114 => ?_) (fun c114 => ?_)
      · refine Ex_iconst dX12_forged_146 rfl ?_
        refine Ex_istore (L2 := [_, _, _, _, _, _, _, _, _, _]) dX12_forged_147 rfl rfl rfl ?_
        refine Ex_iload dX12_forged_149 rfl rfl ?_
        refine Ex_if_eq (t := 164) dX12_forged_151 rfl rfl (by omega) (fun c151 => ?_) (fun c151 => absurd c151 (by omega))
        refine Ex_iload dX12_forged_164 rfl rfl ?_
        refine Ex_if_eq (t := 174) dX12_forged_166 rfl rfl (by omega) (fun c166 => ?_) (fun c166 => absurd c166 (by omega))
        refine Ex_iload dX12_forged_174 rfl rfl ?_
        refine Ex_istore_n (L2 := [_, _, _, _, _, _, _, _, _, _]) dX12_forged_176 rfl rfl rfl ?_
        refine Ex_iinc (L2 := [_, _, _, _, _, _, _, _, _, _]) dX12_forged_177 rfl rfl rfl ?_
        refine Ex_goto (t := 50) dX12_forged_180 rfl ?_
        refine Ex_post (x12_forged_e (xs := xs) M h23 hσ hpk hB ha (by omega) (by omega) hlen hl2) ?_
        rintro r1 h1 ⟨rfl, y1, y2⟩
        exact ⟨rfl, y1, (Fr.rf _ _ _).trans y2⟩
      · refine Ex_lload dX12_forged_117 rfl rfl ?_
        refine Ex_lconst (z := 0) dX12_forged_119 rfl (by decide) ?_
        refine Ex_ldc2 (z := 3) dX12_forged_120 rfl rfl ?_
        refine Ex_stat 0 dX12_forged_123 rfl rfl (Or.inl rfl) rfl rfl rfl rfl rfl rfl (Ex_post (x12_in (by omega) (by omega) (by omega)) ?_)
        rintro _ _ ⟨rfl, e0⟩
        obtain rfl := Eq.symm e0
        refine Ex_if_eq (t := 146) dX12_forged_126 rfl rfl (by omega) (fun c126 => ?_) (fun c126 => ?_)
        · refine Ex_iconst dX12_forged_146 rfl ?_
          refine Ex_istore (L2 := [_, _, _, _, _, _, _, _, _, _]) dX12_forged_147 rfl rfl rfl ?_
          refine Ex_iload dX12_forged_149 rfl rfl ?_
          refine Ex_if_eq (t := 164) dX12_forged_151 rfl rfl (by omega) (fun c151 => ?_) (fun c151 => absurd c151 (by omega))
          refine Ex_iload dX12_forged_164 rfl rfl ?_
          refine Ex_if_eq (t := 174) dX12_forged_166 rfl rfl (by omega) (fun c166 => ?_) (fun c166 => absurd c166 (by omega))
          refine Ex_iload dX12_forged_174 rfl rfl ?_
          refine Ex_istore_n (L2 := [_, _, _, _, _, _, _, _, _, _]) dX12_forged_176 rfl rfl rfl ?_
          refine Ex_iinc (L2 := [_, _, _, _, _, _, _, _, _, _]) dX12_forged_177 rfl rfl rfl ?_
          refine Ex_goto (t := 50) dX12_forged_180 rfl ?_
          refine Ex_post (x12_forged_e (xs := xs) M h23 hσ hpk hB ha (by omega) (by omega) hlen hl2) ?_
          rintro r1 h1 ⟨rfl, y1, y2⟩
          exact ⟨rfl, y1, (Fr.rf _ _ _).trans y2⟩
        · refine Ex_aload_n dX12_forged_129 rfl rfl ?_
          refine Ex_getf dX12_forged_130 rfl (ma0 M) rfl rfl rfl ?_
          refine Ex_lload dX12_forged_133 rfl rfl ?_
          refine Ex_l2i dX12_forged_135 rfl ?_
          refine Ex_iald12 (c := z1.toNat) dX12_forged_136 rfl (ma4 M) (by omega) (by omega) ?_
          refine Ex_bipush dX12_forged_137 rfl (by decide) ?_
          refine Ex_icmp_ge (t := 146) dX12_forged_139 rfl rfl (by have hgz := hg z1.toNat (by omega); omega) (fun c139 => ?_) (fun c139 => ?_)
          · refine Ex_iconst dX12_forged_146 rfl ?_
            refine Ex_istore (L2 := [_, _, _, _, _, _, _, _, _, _]) dX12_forged_147 rfl rfl rfl ?_
            refine Ex_iload dX12_forged_149 rfl rfl ?_
            refine Ex_if_eq (t := 164) dX12_forged_151 rfl rfl (by omega) (fun c151 => ?_) (fun c151 => absurd c151 (by omega))
            refine Ex_iload dX12_forged_164 rfl rfl ?_
            refine Ex_if_eq (t := 174) dX12_forged_166 rfl rfl (by omega) (fun c166 => ?_) (fun c166 => absurd c166 (by omega))
            refine Ex_iload dX12_forged_174 rfl rfl ?_
            refine Ex_istore_n (L2 := [_, _, _, _, _, _, _, _, _, _]) dX12_forged_176 rfl rfl rfl ?_
            refine Ex_iinc (L2 := [_, _, _, _, _, _, _, _, _, _]) dX12_forged_177 rfl rfl rfl ?_
            refine Ex_goto (t := 50) dX12_forged_180 rfl ?_
            refine Ex_post (x12_forged_e (xs := xs) M h23 hσ hpk hB ha (by omega) (by omega) hlen hl2) ?_
            rintro r1 h1 ⟨rfl, y1, y2⟩
            exact ⟨rfl, y1, (Fr.rf _ _ _).trans y2⟩
          · exfalso
            exact q ⟨by omega, by omega, by omega⟩
theorem x12_forged {E : am_E} {d : Nat} {h : Hp} {m n : Nat} {mm hi : Int} {K F T S C : Nat → Int} {σ : Nat → Nat → Int} {hw ck cf rs : Nat → Int} {rx : Nat → List Int} {a : Int}  (I : MI h m (n, mm, K, F, T, S, C) hi σ) (hn6 : n ≤ 6) (hg : Rng n T S C) (hK : ∀ i, i < n → (0 ≤ K i ∧ K i ≤ 7) ∧ (0 ≤ F i ∧ F i ≤ 9)) (hB : E.2 ≤ m) (V : Sv σ hw ck cf rs rx) (ha : (-2147483648 ≤ a ∧ a ≤ 2147483647))  : Ex E (d + 5) mX12_forged 0 [.ref m, .int (i32 a), .retAddr 0, .retAddr 0, .retAddr 0, .retAddr 0, .retAddr 0, .retAddr 0, .retAddr 0, .retAddr 0] [] h (fun r1 h1 => r1 = some (.int (i32 (an_forged hw rs rx (n, mm, K, F, T, S, C) a))) ∧ (∃ σ2, MI h1 m (n, mm, K, F, T, S, C) hi σ2 ∧ Sv σ2 hw ck cf rs rx ∧ σ2 16 = σ 16) ∧ Fr h h1 m (m + 23)) := by
  obtain ⟨g, ρ, kp, M, hn, h6, h23, hσ⟩ := I
  have M : MAt h m g K F T S C ρ kp := M
  have hn : g 0 = (n : Int) := hn
  have h6 : g 6 = mm := h6
  have V : Sv ρ hw ck cf rs rx := V.cg hσ
  have h16 : ρ 16 = σ 16 := hσ 16 (Or.inr rfl)
  clear hσ
  have hσ : ∀ j, (6 ≤ j ∧ j ≤ 11) ∨ j = 16 → ρ j = ρ j := fun _ _ => rfl
  by_cases q : (0 ≤ a ∧ a ≤ 7) ∧ hw a.toNat = 2
  · by_cases q1 : (rx a.toNat).length % 2 = 0
    · have ea : an_forged hw rs rx (n, mm, K, F, T, S, C) a = fgd (rx a.toNat) (n, mm, K, F, T, S, C) 0 ((rx a.toNat).length / 2) := by unfold an_forged; rw [if_pos q]; exact if_pos q1
      rw [ea]
      obtain ⟨a, rfl⟩ := Int.eq_ofNat_of_zero_le q.1.1
      simp only [Int.toNat_natCast] at *
      obtain ⟨v6, v3, vk, vr⟩ := V a (by omega)
      obtain ⟨w1, w2, w3, w4⟩ := vr q.2
      refine Ex_aload_n dX12_forged_0 rfl rfl ?_
      refine Ex_iconst dX12_forged_1 rfl ?_
      refine Ex_put12 (k0 := 13) (v := 0) dX12_forged_2 rfl (ma0 M) rfl rfl rfl rfl rfl (by omega) rfl ?_
      refine mg0 M ?_
      intro h1_ M1_ f1_
      refine Ex_aload_n dX12_forged_5 rfl rfl ?_
      refine Ex_iload_n dX12_forged_6 rfl rfl ?_
      refine Ex_inv 2 dX12_forged_7 rfl rfl (Or.inl rfl) rfl rfl rfl rfl (ma0 M1_) rfl rfl rfl (Ex_post (x12_wR M1_ V (by omega)) ?_)
      rintro _ _ ⟨rfl, e0⟩
      obtain rfl := Eq.symm e0
      rw [if_pos ⟨q.1, q.2⟩]
      refine Ex_istore_n (L2 := [_, _, _, _, _, _, _, _, _, _]) dX12_forged_10 rfl rfl rfl ?_
      refine Ex_iload_n dX12_forged_11 rfl rfl ?_
      refine Ex_if_ne (t := 32) dX12_forged_12 rfl rfl (by omega) (fun c12 => absurd c12 (by omega)) (fun c12 => ?_)
      refine Ex_aload_n dX12_forged_15 rfl rfl ?_
      refine Ex_getf dX12_forged_16 rfl (ma0 M1_) rfl rfl rfl ?_
      refine Ex_iload_n dX12_forged_19 rfl rfl ?_
      refine Ex_iald12 (c := a) dX12_forged_20 rfl (ma10 M1_) (by omega) (by omega) ?_
      rw [w2]
      refine Ex_iconst dX12_forged_21 rfl ?_
      refine Ex_irem dX12_forged_22 rfl (by omega) (by omega) ?_
      refine Ex_iconst dX12_forged_23 rfl ?_
      refine Ex_icmp_ne (t := 32) dX12_forged_24 rfl rfl (by omega) (fun c24 => ?_) (fun c24 => absurd c24 (by omega))
      refine Ex_iload_n dX12_forged_32 rfl rfl ?_
      refine Ex_istore_n (L2 := [_, _, _, _, _, _, _, _, _, _]) dX12_forged_33 rfl rfl rfl ?_
      refine Ex_iload_n dX12_forged_34 rfl rfl ?_
      refine Ex_if_ge (t := 40) dX12_forged_35 rfl rfl (by omega) (fun c35 => ?_) (fun c35 => absurd c35 (by omega))
      refine Ex_bipush dX12_forged_40 rfl (by decide) ?_
      refine Ex_istore_n (L2 := [_, _, _, _, _, _, _, _, _, _]) dX12_forged_42 rfl rfl rfl ?_
      refine Ex_aload_n dX12_forged_43 rfl rfl ?_
      refine Ex_inv 2 dX12_forged_44 rfl rfl (Or.inl rfl) rfl rfl rfl rfl (ma0 M1_) rfl rfl rfl (Ex_post (x12_open M1_ hn h6 hB) ?_)
      rintro _ h2_ ⟨rfl, ⟨g2_, fo_, M2_, hpk, e2⟩, f2_⟩
      refine Ex_iconst dX12_forged_47 rfl ?_
      refine Ex_istore (L2 := [_, _, _, _, _, _, _, _, _, _]) dX12_forged_48 rfl rfl rfl ?_
      have hn2 : g2_ 0 = (n : Int) := by rw [e2 _ (by decide) (by decide)]; exact hn
      have h62 : g2_ 6 = mm := by rw [e2 _ (by decide) (by decide)]; exact h6
      have h232 : g2_ 23 = hi := by rw [e2 _ (by decide) (by decide)]; exact h23
      have hσ2 : ∀ j, (6 ≤ j ∧ j ≤ 11) ∨ j = 16 → fuR ρ 15 fo_ j = ρ j := fun j hj => by rw [fuR_ne (by omega)]
      have hpk2 : ∀ i, i < 32 → fuR ρ 15 fo_ 15 i = pk (n, mm, K, F, T, S, C) i := fun i hi => by rw [fuR_at]; exact hpk i hi
      refine Ex_post (x12_forged_l (σ := ρ) (xs := rx a) hn6 hK hB (by omega) w3 ((rx a).length / 2) 0 mm _ _ _ _ _ _ _ _ _ _ _ h2_ (by omega) M2_ hn2 hg h232 hσ2 hpk2 (by rw [fuR_ne (by decide)]; exact w2) (by rw [fuR_ne (by decide)]; exact w4)) ?_
      rintro r1 h1 ⟨rfl, y1, y2⟩
      exact ⟨rfl, ⟨_, y1, V, h16⟩, (f1_.trans f2_).trans y2⟩
    · have ea : an_forged hw rs rx (n, mm, K, F, T, S, C) a = -13 := by unfold an_forged; rw [if_pos q]; exact if_neg q1
      rw [ea]
      obtain ⟨a, rfl⟩ := Int.eq_ofNat_of_zero_le q.1.1
      simp only [Int.toNat_natCast] at *
      obtain ⟨v6, v3, vk, vr⟩ := V a (by omega)
      obtain ⟨w1, w2, w3, w4⟩ := vr q.2
      refine Ex_aload_n dX12_forged_0 rfl rfl ?_
      refine Ex_iconst dX12_forged_1 rfl ?_
      refine Ex_put12 (k0 := 13) (v := 0) dX12_forged_2 rfl (ma0 M) rfl rfl rfl rfl rfl (by omega) rfl ?_
      refine mg0 M ?_
      intro h1_ M1_ f1_
      refine Ex_aload_n dX12_forged_5 rfl rfl ?_
      refine Ex_iload_n dX12_forged_6 rfl rfl ?_
      refine Ex_inv 2 dX12_forged_7 rfl rfl (Or.inl rfl) rfl rfl rfl rfl (ma0 M1_) rfl rfl rfl (Ex_post (x12_wR M1_ V (by omega)) ?_)
      rintro _ _ ⟨rfl, e0⟩
      obtain rfl := Eq.symm e0
      rw [if_pos ⟨q.1, q.2⟩]
      refine Ex_istore_n (L2 := [_, _, _, _, _, _, _, _, _, _]) dX12_forged_10 rfl rfl rfl ?_
      refine Ex_iload_n dX12_forged_11 rfl rfl ?_
      refine Ex_if_ne (t := 32) dX12_forged_12 rfl rfl (by omega) (fun c12 => absurd c12 (by omega)) (fun c12 => ?_)
      refine Ex_aload_n dX12_forged_15 rfl rfl ?_
      refine Ex_getf dX12_forged_16 rfl (ma0 M1_) rfl rfl rfl ?_
      refine Ex_iload_n dX12_forged_19 rfl rfl ?_
      refine Ex_iald12 (c := a) dX12_forged_20 rfl (ma10 M1_) (by omega) (by omega) ?_
      rw [w2]
      refine Ex_iconst dX12_forged_21 rfl ?_
      refine Ex_irem dX12_forged_22 rfl (by omega) (by omega) ?_
      refine Ex_iconst dX12_forged_23 rfl ?_
      refine Ex_icmp_ne (t := 32) dX12_forged_24 rfl rfl (by omega) (fun c24 => absurd c24 (by omega)) (fun c24 => ?_)
      refine Ex_bipush dX12_forged_27 rfl (by decide) ?_
      refine Ex_goto (t := 33) dX12_forged_29 rfl ?_
      refine Ex_istore_n (L2 := [_, _, _, _, _, _, _, _, _, _]) dX12_forged_33 rfl rfl rfl ?_
      refine Ex_iload_n dX12_forged_34 rfl rfl ?_
      refine Ex_if_ge (t := 40) dX12_forged_35 rfl rfl (by omega) (fun c35 => absurd c35 (by omega)) (fun c35 => ?_)
      refine Ex_iload_n dX12_forged_38 rfl rfl ?_
      refine Ex_iret dX12_forged_39 rfl rfl ?_
      exact ⟨rfl, ⟨_, ⟨_, _, _, M1_, hn, h6, h23, fun _ _ => rfl⟩, V, h16⟩, f1_⟩
  · have gw := why_r (hw := hw) (a := a)
    have ea : an_forged hw rs rx (n, mm, K, F, T, S, C) a = why hw a := by unfold an_forged; exact if_neg q
    rw [ea]
    refine Ex_aload_n dX12_forged_0 rfl rfl ?_
    refine Ex_iconst dX12_forged_1 rfl ?_
    refine Ex_put12 (k0 := 13) (v := 0) dX12_forged_2 rfl (ma0 M) rfl rfl rfl rfl rfl (by omega) rfl ?_
    refine mg0 M ?_
    intro h1_ M1_ f1_
    refine Ex_aload_n dX12_forged_5 rfl rfl ?_
    refine Ex_iload_n dX12_forged_6 rfl rfl ?_
    refine Ex_inv 2 dX12_forged_7 rfl rfl (Or.inl rfl) rfl rfl rfl rfl (ma0 M1_) rfl rfl rfl (Ex_post (x12_wR M1_ V (by omega)) ?_)
    rintro _ _ ⟨rfl, e0⟩
    obtain rfl := Eq.symm e0
    rw [if_neg q]
    refine Ex_istore_n (L2 := [_, _, _, _, _, _, _, _, _, _]) dX12_forged_10 rfl rfl rfl ?_
    refine Ex_iload_n dX12_forged_11 rfl rfl ?_
    refine Ex_if_ne (t := 32) dX12_forged_12 rfl rfl (by omega) (fun c12 => ?_) (fun c12 => absurd c12 (by omega))
    refine Ex_iload_n dX12_forged_32 rfl rfl ?_
    refine Ex_istore_n (L2 := [_, _, _, _, _, _, _, _, _, _]) dX12_forged_33 rfl rfl rfl ?_
    refine Ex_iload_n dX12_forged_34 rfl rfl ?_
    refine Ex_if_ge (t := 40) dX12_forged_35 rfl rfl (by omega) (fun c35 => absurd c35 (by omega)) (fun c35 => ?_)
    refine Ex_iload_n dX12_forged_38 rfl rfl ?_
    refine Ex_iret dX12_forged_39 rfl rfl ?_
    exact ⟨rfl, ⟨_, ⟨_, _, _, M1_, hn, h6, h23, fun _ _ => rfl⟩, V, h16⟩, f1_⟩
theorem x12_skipped {E : am_E} {d : Nat} {h : Hp} {m : Nat} {g K F T S C : Nat → Int} {ρ : Nat → Nat → Int} {kp : Value} {a : Nat}  (M : MAt h m g K F T S C ρ kp) (ha : a < 8) (hs : 0 ≤ ρ 9 a ∧ ρ 9 a ≤ 2)  : Ex E d mX12_skipped 0 [.ref m, .int (i32 (a : Int))] [] h (fun r1 h1 => r1 = some (.long (i64 (lst (ρ 9 a)))) ∧ h1 = h) := by
  rcases (show ρ 9 a = 0 ∨ ρ 9 a = 1 ∨ ρ 9 a = 2 by omega) with e | e | e
  · skip
    refine Ex_aload_n dX12_skipped_0 rfl rfl ?_
    refine Ex_getf dX12_skipped_1 rfl (ma0 M) rfl rfl rfl ?_
    refine Ex_iload_n dX12_skipped_4 rfl rfl ?_
    refine Ex_iald12 (c := a) dX12_skipped_5 rfl (ma9 M) (by omega) (by omega) ?_
    refine Ex_if_ne (t := 15) dX12_skipped_6 rfl rfl (by omega) (fun c6 => absurd c6 (by omega)) (fun c6 => ?_)
    refine Ex_ldc2 (z := (-128)) dX12_skipped_9 rfl rfl ?_
    refine Ex_goto (t := 34) dX12_skipped_12 rfl ?_
    refine Ex_lret dX12_skipped_34 rfl ?_
    exact ⟨by rw [e]; rfl, rfl⟩
  · skip
    refine Ex_aload_n dX12_skipped_0 rfl rfl ?_
    refine Ex_getf dX12_skipped_1 rfl (ma0 M) rfl rfl rfl ?_
    refine Ex_iload_n dX12_skipped_4 rfl rfl ?_
    refine Ex_iald12 (c := a) dX12_skipped_5 rfl (ma9 M) (by omega) (by omega) ?_
    refine Ex_if_ne (t := 15) dX12_skipped_6 rfl rfl (by omega) (fun c6 => ?_) (fun c6 => absurd c6 (by omega))
    refine Ex_aload_n dX12_skipped_15 rfl rfl ?_
    refine Ex_getf dX12_skipped_16 rfl (ma0 M) rfl rfl rfl ?_
    refine Ex_iload_n dX12_skipped_19 rfl rfl ?_
    refine Ex_iald12 (c := a) dX12_skipped_20 rfl (ma9 M) (by omega) (by omega) ?_
    refine Ex_iconst dX12_skipped_21 rfl ?_
    refine Ex_icmp_ne (t := 31) dX12_skipped_22 rfl rfl (by omega) (fun c22 => absurd c22 (by omega)) (fun c22 => ?_)
    refine Ex_ldc2 (z := (-32768)) dX12_skipped_25 rfl rfl ?_
    refine Ex_goto (t := 34) dX12_skipped_28 rfl ?_
    refine Ex_lret dX12_skipped_34 rfl ?_
    exact ⟨by rw [e]; rfl, rfl⟩
  · skip
    refine Ex_aload_n dX12_skipped_0 rfl rfl ?_
    refine Ex_getf dX12_skipped_1 rfl (ma0 M) rfl rfl rfl ?_
    refine Ex_iload_n dX12_skipped_4 rfl rfl ?_
    refine Ex_iald12 (c := a) dX12_skipped_5 rfl (ma9 M) (by omega) (by omega) ?_
    refine Ex_if_ne (t := 15) dX12_skipped_6 rfl rfl (by omega) (fun c6 => ?_) (fun c6 => absurd c6 (by omega))
    refine Ex_aload_n dX12_skipped_15 rfl rfl ?_
    refine Ex_getf dX12_skipped_16 rfl (ma0 M) rfl rfl rfl ?_
    refine Ex_iload_n dX12_skipped_19 rfl rfl ?_
    refine Ex_iald12 (c := a) dX12_skipped_20 rfl (ma9 M) (by omega) (by omega) ?_
    refine Ex_iconst dX12_skipped_21 rfl ?_
    refine Ex_icmp_ne (t := 31) dX12_skipped_22 rfl rfl (by omega) (fun c22 => ?_) (fun c22 => absurd c22 (by omega))
    refine Ex_ldc2 (z := (-2147483648)) dX12_skipped_31 rfl rfl ?_
    refine Ex_lret dX12_skipped_34 rfl ?_
    exact ⟨by rw [e]; rfl, rfl⟩
theorem x12_judge_e {E : am_E} {d : Nat} {h : Hp} {m n : Nat} {mt hi : Int} {K F T0 S0 C0 : Nat → Int} {σ : Nat → Nat → Int} {g K2 F2 T2 S2 C2 : Nat → Int} {ρ : Nat → Nat → Int} {kp : Value} {a : Nat} {xs : List Int} {i c ans r3 l6 : Int}  (M : MAt h m g K2 F2 T2 S2 C2 ρ kp) (h23 : g 23 = hi) (hσ : ∀ j, (6 ≤ j ∧ j ≤ 11) ∨ j = 16 → ρ j = σ j) (hpk : ∀ i, i < 32 → ρ 15 i = pk (n, mt, K, F, T0, S0, C0) i) (hB : E.2 ≤ m) (ha : a < 8) (hi0 : 0 ≤ i ∧ i ≤ 1000) (hans : 0 ≤ ans ∧ ans ≤ 1000) (hlen : ρ 10 a = (xs.length : Int)) (hl2 : xs.length ≤ 100)  : Ex E (d + 6) mX12_judge 45 [.ref m, .int (i32 (a : Int)), .int (i32 c), .int (i32 r3), .int (i32 ans), .int (i32 i), .long (i64 l6), .retAddr 0] [] h (fun r1 h1 => r1 = some (.int (i32 (ans))) ∧ MI h1 m (n, mt, K, F, T0, S0, C0) hi σ ∧ Fr h h1 m (m + 23)) := by
  by_cases q : ((xs.length : Nat) : Int) ≤ i
  · refine Ex_iload dX12_judge_45 rfl rfl ?_
    refine Ex_aload_n dX12_judge_47 rfl rfl ?_
    refine Ex_getf dX12_judge_48 rfl (ma0 M) rfl rfl rfl ?_
    refine Ex_iload_n dX12_judge_51 rfl rfl ?_
    refine Ex_iald12 (c := a) dX12_judge_52 rfl (ma10 M) (by omega) (by omega) ?_
    rw [hlen]
    refine Ex_icmp_ge (t := 124) dX12_judge_53 rfl rfl (by omega) (fun c53 => ?_) (fun c53 => absurd c53 (by omega))
    refine Ex_aload_n dX12_judge_124 rfl rfl ?_
    refine Ex_inv 2 dX12_judge_125 rfl rfl (Or.inl rfl) rfl rfl rfl rfl (ma0 M) rfl rfl rfl (Ex_post (x12_closeI M h23 hσ hpk hB) ?_)
    rintro _ h9 ⟨rfl, y1, y2⟩
    refine Ex_iload dX12_judge_128 rfl rfl ?_
    refine Ex_iret dX12_judge_130 rfl rfl ?_
    exact ⟨rfl, y1, y2⟩
  · refine Ex_iload dX12_judge_45 rfl rfl ?_
    refine Ex_aload_n dX12_judge_47 rfl rfl ?_
    refine Ex_getf dX12_judge_48 rfl (ma0 M) rfl rfl rfl ?_
    refine Ex_iload_n dX12_judge_51 rfl rfl ?_
    refine Ex_iald12 (c := a) dX12_judge_52 rfl (ma10 M) (by omega) (by omega) ?_
    rw [hlen]
    refine Ex_icmp_ge (t := 124) dX12_judge_53 rfl rfl (by omega) (fun c53 => absurd c53 (by omega)) (fun c53 => ?_)
    refine Ex_iload dX12_judge_56 rfl rfl ?_
    refine Ex_if_ge (t := 124) dX12_judge_58 rfl rfl (by omega) (fun c58 => ?_) (fun c58 => absurd c58 (by omega))
    refine Ex_aload_n dX12_judge_124 rfl rfl ?_
    refine Ex_inv 2 dX12_judge_125 rfl rfl (Or.inl rfl) rfl rfl rfl rfl (ma0 M) rfl rfl rfl (Ex_post (x12_closeI M h23 hσ hpk hB) ?_)
    rintro _ h9 ⟨rfl, y1, y2⟩
    refine Ex_iload dX12_judge_128 rfl rfl ?_
    refine Ex_iret dX12_judge_130 rfl rfl ?_
    exact ⟨rfl, y1, y2⟩
theorem x12_judge_l {E : am_E} {d : Nat} {m n : Nat} {mt hi : Int} {K F T0 S0 C0 : Nat → Int} {σ : Nat → Nat → Int} {a c : Nat} {r3 so : Int} {xs : List Int} (hn6 : n ≤ 6) (hK : ∀ i, i < n → (0 ≤ K i ∧ K i ≤ 7) ∧ (0 ≤ F i ∧ F i ≤ 9)) (hB : E.2 ≤ m) (ha : a < 8) (hc : c < n) (hso : 0 ≤ so ∧ so ≤ 2) (hl2 : xs.length ≤ 100) : ∀ (k i : Nat) (X : TS) (g : Nat → Int) (ρ : Nat → Nat → Int) (kp : Value) (v6 v7 : Value) (h : Hp), i + (k + 1) = xs.length → MAt h m g K F X.2.2.1 X.2.2.2.1 X.2.2.2.2 ρ kp → g 0 = (n : Int) → g 6 = X.1 → g 33 = (X.2.1 : Int) → g 23 = hi → (∀ j, (6 ≤ j ∧ j ≤ 11) ∨ j = 16 → ρ j = σ j) → (∀ i, i < 32 → ρ 15 i = pk (n, mt, K, F, T0, S0, C0) i) → RngX n X → X.2.1 ≤ n → ρ 9 a = so → ρ 10 a = (xs.length : Int) → (∀ i, i < xs.length → ρ 11 (100 * a + i) = xs.getD i 0 ∧ (-2147483648 ≤ xs.getD i 0 ∧ xs.getD i 0 ≤ 2147483647)) → Ex E (d + 6) mX12_judge 71 [.ref m, .int (i32 (a : Int)), .int (i32 (c : Int)), .int (i32 r3), .int (i32 (-4)), .int (i32 (i : Int)), v6, v7] [] h (fun r1 h1 => r1 = some (.int (i32 (jdg K F n c so xs X (i : Int) (k + 1)))) ∧ MI h1 m (n, mt, K, F, T0, S0, C0) hi σ ∧ Fr h h1 m (m + 23)) := by
  intro k
  induction k with
  | zero =>
    intro i X g ρ kp v6 v7 h hk M hn h6 h33 h23 hσ hpk hgX htu hso9 hlen hx
    obtain ⟨g1, g2⟩ := gx_row hx (show i < xs.length by omega)
    have hgc := hgX c hc
    have hls : -2147483648 ≤ lst so ∧ lst so ≤ 0 := by unfold lst; (repeat' split) <;> omega
    obtain ⟨z1, hz1⟩ : ∃ z, z = gx xs (i : Int) := ⟨_, rfl⟩
    rw [← hz1] at g1 g2
    have ea : ∀ j, jdg K F n c so xs X (i : Int) (j + 1) = if z1 ≠ lst so ∧ z1 ≠ X.2.2.1 c then (i : Int) else jdg K F n c so xs (tst K F n X) ((i : Int) + 1) j := fun j => by rw [hz1]; rfl
    rw [ea]
    have r1_ := lcmp_r (a := z1) (b := lst so)
    have r2_ := lcmp_r (a := z1) (b := X.2.2.1 c)
    have r3_ := lcmp_eq (a := z1) (b := lst so)
    have r4_ := lcmp_eq (a := z1) (b := X.2.2.1 c)
    by_cases q : z1 ≠ lst so ∧ z1 ≠ X.2.2.1 c
    · rw [if_pos q]
      refine Ex_aload_n dX12_judge_71 rfl rfl ?_
      refine Ex_getf dX12_judge_72 rfl (ma0 M) rfl rfl rfl ?_
      refine Ex_bipush dX12_judge_75 rfl (by decide) ?_
      refine Ex_iload_n dX12_judge_77 rfl rfl ?_
      refine Ex_imul dX12_judge_78 rfl ?_
      refine Ex_iload dX12_judge_79 rfl rfl ?_
      refine Ex_iadd dX12_judge_81 rfl ?_
      refine Ex_lald12 (c := (100 * a + i)) dX12_judge_82 rfl (ma11 M) (by omega) (by omega) ?_
      rw [g1]
      refine Ex_lstore (L2 := [_, _, _, _, _, _, _, _]) dX12_judge_83 rfl rfl rfl ?_
      refine Ex_lload dX12_judge_85 rfl rfl ?_
      refine Ex_aload_n dX12_judge_87 rfl rfl ?_
      refine Ex_iload_n dX12_judge_88 rfl rfl ?_
      refine Ex_inv 2 dX12_judge_89 rfl rfl (Or.inl rfl) rfl rfl rfl rfl (ma0 M) rfl rfl rfl (Ex_post (x12_skipped M ha (by omega)) ?_)
      rintro _ _ ⟨rfl, e0⟩
      obtain rfl := Eq.symm e0
      rw [hso9]
      refine Ex_lcmp dX12_judge_92 rfl (by omega) ?_
      refine Ex_if_eq (t := 109) dX12_judge_93 rfl rfl (by omega) (fun c93 => absurd c93 (by omega)) (fun c93 => ?_)
      refine Ex_lload dX12_judge_96 rfl rfl ?_
      refine Ex_aload_n dX12_judge_98 rfl rfl ?_
      refine Ex_getf dX12_judge_99 rfl (ma0 M) rfl rfl rfl ?_
      refine Ex_iload_n dX12_judge_102 rfl rfl ?_
      refine Ex_iald12 (c := c) dX12_judge_103 rfl (ma3 M) rfl (by omega) ?_
      refine Ex_i2l dX12_judge_104 rfl (by omega) ?_
      refine Ex_lcmp dX12_judge_105 rfl (by omega) ?_
      refine Ex_if_ne (t := 114) dX12_judge_106 rfl rfl (by omega) (fun c106 => ?_) (fun c106 => absurd c106 (by omega))
      refine Ex_iload dX12_judge_114 rfl rfl ?_
      refine Ex_istore (L2 := [_, _, _, _, _, _, _, _]) dX12_judge_116 rfl rfl rfl ?_
      refine Ex_iinc (L2 := [_, _, _, _, _, _, _, _]) dX12_judge_118 rfl rfl rfl ?_
      refine Ex_goto (t := 45) dX12_judge_121 rfl ?_
      refine Ex_post (x12_judge_e (xs := xs) M h23 hσ hpk hB ha (by omega) (by omega) hlen hl2) ?_
      rintro r1 h1 ⟨rfl, y1, y2⟩
      exact ⟨rfl, y1, (Fr.rf _ _ _).trans y2⟩
    · rw [if_neg q]
      by_cases q1 : z1 = lst so
      · refine Ex_aload_n dX12_judge_71 rfl rfl ?_
        refine Ex_getf dX12_judge_72 rfl (ma0 M) rfl rfl rfl ?_
        refine Ex_bipush dX12_judge_75 rfl (by decide) ?_
        refine Ex_iload_n dX12_judge_77 rfl rfl ?_
        refine Ex_imul dX12_judge_78 rfl ?_
        refine Ex_iload dX12_judge_79 rfl rfl ?_
        refine Ex_iadd dX12_judge_81 rfl ?_
        refine Ex_lald12 (c := (100 * a + i)) dX12_judge_82 rfl (ma11 M) (by omega) (by omega) ?_
        rw [g1]
        refine Ex_lstore (L2 := [_, _, _, _, _, _, _, _]) dX12_judge_83 rfl rfl rfl ?_
        refine Ex_lload dX12_judge_85 rfl rfl ?_
        refine Ex_aload_n dX12_judge_87 rfl rfl ?_
        refine Ex_iload_n dX12_judge_88 rfl rfl ?_
        refine Ex_inv 2 dX12_judge_89 rfl rfl (Or.inl rfl) rfl rfl rfl rfl (ma0 M) rfl rfl rfl (Ex_post (x12_skipped M ha (by omega)) ?_)
        rintro _ _ ⟨rfl, e0⟩
        obtain rfl := Eq.symm e0
        rw [hso9]
        refine Ex_lcmp dX12_judge_92 rfl (by omega) ?_
        refine Ex_if_eq (t := 109) dX12_judge_93 rfl rfl (by omega) (fun c93 => ?_) (fun c93 => absurd c93 (by omega))
        refine Ex_bipush dX12_judge_109 rfl (by decide) ?_
        refine Ex_goto (t := 116) dX12_judge_111 rfl ?_
        refine Ex_istore (L2 := [_, _, _, _, _, _, _, _]) dX12_judge_116 rfl rfl rfl ?_
        refine Ex_iinc (L2 := [_, _, _, _, _, _, _, _]) dX12_judge_118 rfl rfl rfl ?_
        refine Ex_goto (t := 45) dX12_judge_121 rfl ?_
        refine Ex_iload dX12_judge_45 rfl rfl ?_
        refine Ex_aload_n dX12_judge_47 rfl rfl ?_
        refine Ex_getf dX12_judge_48 rfl (ma0 M) rfl rfl rfl ?_
        refine Ex_iload_n dX12_judge_51 rfl rfl ?_
        refine Ex_iald12 (c := a) dX12_judge_52 rfl (ma10 M) (by omega) (by omega) ?_
        rw [hlen]
        refine Ex_icmp_ge (t := 124) dX12_judge_53 rfl rfl (by omega) (fun c53 => ?_) (fun c53 => absurd c53 (by omega))
        refine Ex_aload_n dX12_judge_124 rfl rfl ?_
        refine Ex_inv 2 dX12_judge_125 rfl rfl (Or.inl rfl) rfl rfl rfl rfl (ma0 M) rfl rfl rfl (Ex_post (x12_closeI M h23 hσ hpk hB) ?_)
        rintro _ h9 ⟨rfl, y1, y2⟩
        refine Ex_iload dX12_judge_128 rfl rfl ?_
        refine Ex_iret dX12_judge_130 rfl rfl ?_
        exact ⟨rfl, y1, (Fr.rf _ _ _).trans y2⟩
      · have q2 : z1 = X.2.2.1 c := by omega
        refine Ex_aload_n dX12_judge_71 rfl rfl ?_
        refine Ex_getf dX12_judge_72 rfl (ma0 M) rfl rfl rfl ?_
        refine Ex_bipush dX12_judge_75 rfl (by decide) ?_
        refine Ex_iload_n dX12_judge_77 rfl rfl ?_
        refine Ex_imul dX12_judge_78 rfl ?_
        refine Ex_iload dX12_judge_79 rfl rfl ?_
        refine Ex_iadd dX12_judge_81 rfl ?_
        refine Ex_lald12 (c := (100 * a + i)) dX12_judge_82 rfl (ma11 M) (by omega) (by omega) ?_
        rw [g1]
        refine Ex_lstore (L2 := [_, _, _, _, _, _, _, _]) dX12_judge_83 rfl rfl rfl ?_
        refine Ex_lload dX12_judge_85 rfl rfl ?_
        refine Ex_aload_n dX12_judge_87 rfl rfl ?_
        refine Ex_iload_n dX12_judge_88 rfl rfl ?_
        refine Ex_inv 2 dX12_judge_89 rfl rfl (Or.inl rfl) rfl rfl rfl rfl (ma0 M) rfl rfl rfl (Ex_post (x12_skipped M ha (by omega)) ?_)
        rintro _ _ ⟨rfl, e0⟩
        obtain rfl := Eq.symm e0
        rw [hso9]
        refine Ex_lcmp dX12_judge_92 rfl (by omega) ?_
        refine Ex_if_eq (t := 109) dX12_judge_93 rfl rfl (by omega) (fun c93 => absurd c93 (by omega)) (fun c93 => ?_)
        refine Ex_lload dX12_judge_96 rfl rfl ?_
        refine Ex_aload_n dX12_judge_98 rfl rfl ?_
        refine Ex_getf dX12_judge_99 rfl (ma0 M) rfl rfl rfl ?_
        refine Ex_iload_n dX12_judge_102 rfl rfl ?_
        refine Ex_iald12 (c := c) dX12_judge_103 rfl (ma3 M) rfl (by omega) ?_
        refine Ex_i2l dX12_judge_104 rfl (by omega) ?_
        refine Ex_lcmp dX12_judge_105 rfl (by omega) ?_
        refine Ex_if_ne (t := 114) dX12_judge_106 rfl rfl (by omega) (fun c106 => absurd c106 (by omega)) (fun c106 => ?_)
        refine Ex_bipush dX12_judge_109 rfl (by decide) ?_
        refine Ex_goto (t := 116) dX12_judge_111 rfl ?_
        refine Ex_istore (L2 := [_, _, _, _, _, _, _, _]) dX12_judge_116 rfl rfl rfl ?_
        refine Ex_iinc (L2 := [_, _, _, _, _, _, _, _]) dX12_judge_118 rfl rfl rfl ?_
        refine Ex_goto (t := 45) dX12_judge_121 rfl ?_
        refine Ex_iload dX12_judge_45 rfl rfl ?_
        refine Ex_aload_n dX12_judge_47 rfl rfl ?_
        refine Ex_getf dX12_judge_48 rfl (ma0 M) rfl rfl rfl ?_
        refine Ex_iload_n dX12_judge_51 rfl rfl ?_
        refine Ex_iald12 (c := a) dX12_judge_52 rfl (ma10 M) (by omega) (by omega) ?_
        rw [hlen]
        refine Ex_icmp_ge (t := 124) dX12_judge_53 rfl rfl (by omega) (fun c53 => ?_) (fun c53 => absurd c53 (by omega))
        refine Ex_aload_n dX12_judge_124 rfl rfl ?_
        refine Ex_inv 2 dX12_judge_125 rfl rfl (Or.inl rfl) rfl rfl rfl rfl (ma0 M) rfl rfl rfl (Ex_post (x12_closeI M h23 hσ hpk hB) ?_)
        rintro _ h9 ⟨rfl, y1, y2⟩
        refine Ex_iload dX12_judge_128 rfl rfl ?_
        refine Ex_iret dX12_judge_130 rfl rfl ?_
        exact ⟨rfl, y1, (Fr.rf _ _ _).trans y2⟩
  | succ k ih =>
    intro i X g ρ kp v6 v7 h hk M hn h6 h33 h23 hσ hpk hgX htu hso9 hlen hx
    obtain ⟨g1, g2⟩ := gx_row hx (show i < xs.length by omega)
    have hgc := hgX c hc
    have hls : -2147483648 ≤ lst so ∧ lst so ≤ 0 := by unfold lst; (repeat' split) <;> omega
    obtain ⟨z1, hz1⟩ : ∃ z, z = gx xs (i : Int) := ⟨_, rfl⟩
    rw [← hz1] at g1 g2
    have ea : ∀ j, jdg K F n c so xs X (i : Int) (j + 1) = if z1 ≠ lst so ∧ z1 ≠ X.2.2.1 c then (i : Int) else jdg K F n c so xs (tst K F n X) ((i : Int) + 1) j := fun j => by rw [hz1]; rfl
    rw [ea]
    have r1_ := lcmp_r (a := z1) (b := lst so)
    have r2_ := lcmp_r (a := z1) (b := X.2.2.1 c)
    have r3_ := lcmp_eq (a := z1) (b := lst so)
    have r4_ := lcmp_eq (a := z1) (b := X.2.2.1 c)
    by_cases q : z1 ≠ lst so ∧ z1 ≠ X.2.2.1 c
    · rw [if_pos q]
      refine Ex_aload_n dX12_judge_71 rfl rfl ?_
      refine Ex_getf dX12_judge_72 rfl (ma0 M) rfl rfl rfl ?_
      refine Ex_bipush dX12_judge_75 rfl (by decide) ?_
      refine Ex_iload_n dX12_judge_77 rfl rfl ?_
      refine Ex_imul dX12_judge_78 rfl ?_
      refine Ex_iload dX12_judge_79 rfl rfl ?_
      refine Ex_iadd dX12_judge_81 rfl ?_
      refine Ex_lald12 (c := (100 * a + i)) dX12_judge_82 rfl (ma11 M) (by omega) (by omega) ?_
      rw [g1]
      refine Ex_lstore (L2 := [_, _, _, _, _, _, _, _]) dX12_judge_83 rfl rfl rfl ?_
      refine Ex_lload dX12_judge_85 rfl rfl ?_
      refine Ex_aload_n dX12_judge_87 rfl rfl ?_
      refine Ex_iload_n dX12_judge_88 rfl rfl ?_
      refine Ex_inv 2 dX12_judge_89 rfl rfl (Or.inl rfl) rfl rfl rfl rfl (ma0 M) rfl rfl rfl (Ex_post (x12_skipped M ha (by omega)) ?_)
      rintro _ _ ⟨rfl, e0⟩
      obtain rfl := Eq.symm e0
      rw [hso9]
      refine Ex_lcmp dX12_judge_92 rfl (by omega) ?_
      refine Ex_if_eq (t := 109) dX12_judge_93 rfl rfl (by omega) (fun c93 => absurd c93 (by omega)) (fun c93 => ?_)
      refine Ex_lload dX12_judge_96 rfl rfl ?_
      refine Ex_aload_n dX12_judge_98 rfl rfl ?_
      refine Ex_getf dX12_judge_99 rfl (ma0 M) rfl rfl rfl ?_
      refine Ex_iload_n dX12_judge_102 rfl rfl ?_
      refine Ex_iald12 (c := c) dX12_judge_103 rfl (ma3 M) rfl (by omega) ?_
      refine Ex_i2l dX12_judge_104 rfl (by omega) ?_
      refine Ex_lcmp dX12_judge_105 rfl (by omega) ?_
      refine Ex_if_ne (t := 114) dX12_judge_106 rfl rfl (by omega) (fun c106 => ?_) (fun c106 => absurd c106 (by omega))
      refine Ex_iload dX12_judge_114 rfl rfl ?_
      refine Ex_istore (L2 := [_, _, _, _, _, _, _, _]) dX12_judge_116 rfl rfl rfl ?_
      refine Ex_iinc (L2 := [_, _, _, _, _, _, _, _]) dX12_judge_118 rfl rfl rfl ?_
      refine Ex_goto (t := 45) dX12_judge_121 rfl ?_
      refine Ex_post (x12_judge_e (xs := xs) M h23 hσ hpk hB ha (by omega) (by omega) hlen hl2) ?_
      rintro r1 h1 ⟨rfl, y1, y2⟩
      exact ⟨rfl, y1, (Fr.rf _ _ _).trans y2⟩
    · rw [if_neg q]
      by_cases q1 : z1 = lst so
      · refine Ex_aload_n dX12_judge_71 rfl rfl ?_
        refine Ex_getf dX12_judge_72 rfl (ma0 M) rfl rfl rfl ?_
        refine Ex_bipush dX12_judge_75 rfl (by decide) ?_
        refine Ex_iload_n dX12_judge_77 rfl rfl ?_
        refine Ex_imul dX12_judge_78 rfl ?_
        refine Ex_iload dX12_judge_79 rfl rfl ?_
        refine Ex_iadd dX12_judge_81 rfl ?_
        refine Ex_lald12 (c := (100 * a + i)) dX12_judge_82 rfl (ma11 M) (by omega) (by omega) ?_
        rw [g1]
        refine Ex_lstore (L2 := [_, _, _, _, _, _, _, _]) dX12_judge_83 rfl rfl rfl ?_
        refine Ex_lload dX12_judge_85 rfl rfl ?_
        refine Ex_aload_n dX12_judge_87 rfl rfl ?_
        refine Ex_iload_n dX12_judge_88 rfl rfl ?_
        refine Ex_inv 2 dX12_judge_89 rfl rfl (Or.inl rfl) rfl rfl rfl rfl (ma0 M) rfl rfl rfl (Ex_post (x12_skipped M ha (by omega)) ?_)
        rintro _ _ ⟨rfl, e0⟩
        obtain rfl := Eq.symm e0
        rw [hso9]
        refine Ex_lcmp dX12_judge_92 rfl (by omega) ?_
        refine Ex_if_eq (t := 109) dX12_judge_93 rfl rfl (by omega) (fun c93 => ?_) (fun c93 => absurd c93 (by omega))
        refine Ex_bipush dX12_judge_109 rfl (by decide) ?_
        refine Ex_goto (t := 116) dX12_judge_111 rfl ?_
        refine Ex_istore (L2 := [_, _, _, _, _, _, _, _]) dX12_judge_116 rfl rfl rfl ?_
        refine Ex_iinc (L2 := [_, _, _, _, _, _, _, _]) dX12_judge_118 rfl rfl rfl ?_
        refine Ex_goto (t := 45) dX12_judge_121 rfl ?_
        refine Ex_iload dX12_judge_45 rfl rfl ?_
        refine Ex_aload_n dX12_judge_47 rfl rfl ?_
        refine Ex_getf dX12_judge_48 rfl (ma0 M) rfl rfl rfl ?_
        refine Ex_iload_n dX12_judge_51 rfl rfl ?_
        refine Ex_iald12 (c := a) dX12_judge_52 rfl (ma10 M) (by omega) (by omega) ?_
        rw [hlen]
        refine Ex_icmp_ge (t := 124) dX12_judge_53 rfl rfl (by omega) (fun c53 => absurd c53 (by omega)) (fun c53 => ?_)
        refine Ex_iload dX12_judge_56 rfl rfl ?_
        refine Ex_if_ge (t := 124) dX12_judge_58 rfl rfl (by omega) (fun c58 => absurd c58 (by omega)) (fun c58 => ?_)
        refine Ex_iload dX12_judge_61 rfl rfl ?_
        refine Ex_if_le (t := 71) dX12_judge_63 rfl rfl (by omega) (fun c63 => absurd c63 (by omega)) (fun c63 => ?_)
        refine Ex_aload_n dX12_judge_66 rfl rfl ?_
        refine Ex_inv 2 dX12_judge_67 rfl rfl (Or.inl rfl) rfl rfl rfl rfl (ma0 M) rfl rfl rfl (Ex_post (x12_nextTurn M hn hn6 hgX hK hB h6 h33 htu) ?_)
        rintro _ h51_ ⟨rfl, ⟨g9_, M51_, t6, t33, e9⟩, f51_⟩
        refine Ex_pop dX12_judge_70 rfl rfl ?_
        refine Ex_post (ih (i + 1) _ _ _ _ _ _ _ (by omega) M51_ (by rw [e9 _ (by decide) (by decide)]; exact hn) t6 t33 (by rw [e9 _ (by decide) (by decide)]; exact h23) hσ hpk (tst_r hgX (fun i hi => (hK i hi).2)) (tst_tu htu) hso9 hlen hx) ?_
        rintro r1 h1 ⟨rfl, y1, y2⟩
        exact ⟨rfl, y1, ((Fr.rf _ _ _).trans f51_).trans y2⟩
      · have q2 : z1 = X.2.2.1 c := by omega
        refine Ex_aload_n dX12_judge_71 rfl rfl ?_
        refine Ex_getf dX12_judge_72 rfl (ma0 M) rfl rfl rfl ?_
        refine Ex_bipush dX12_judge_75 rfl (by decide) ?_
        refine Ex_iload_n dX12_judge_77 rfl rfl ?_
        refine Ex_imul dX12_judge_78 rfl ?_
        refine Ex_iload dX12_judge_79 rfl rfl ?_
        refine Ex_iadd dX12_judge_81 rfl ?_
        refine Ex_lald12 (c := (100 * a + i)) dX12_judge_82 rfl (ma11 M) (by omega) (by omega) ?_
        rw [g1]
        refine Ex_lstore (L2 := [_, _, _, _, _, _, _, _]) dX12_judge_83 rfl rfl rfl ?_
        refine Ex_lload dX12_judge_85 rfl rfl ?_
        refine Ex_aload_n dX12_judge_87 rfl rfl ?_
        refine Ex_iload_n dX12_judge_88 rfl rfl ?_
        refine Ex_inv 2 dX12_judge_89 rfl rfl (Or.inl rfl) rfl rfl rfl rfl (ma0 M) rfl rfl rfl (Ex_post (x12_skipped M ha (by omega)) ?_)
        rintro _ _ ⟨rfl, e0⟩
        obtain rfl := Eq.symm e0
        rw [hso9]
        refine Ex_lcmp dX12_judge_92 rfl (by omega) ?_
        refine Ex_if_eq (t := 109) dX12_judge_93 rfl rfl (by omega) (fun c93 => absurd c93 (by omega)) (fun c93 => ?_)
        refine Ex_lload dX12_judge_96 rfl rfl ?_
        refine Ex_aload_n dX12_judge_98 rfl rfl ?_
        refine Ex_getf dX12_judge_99 rfl (ma0 M) rfl rfl rfl ?_
        refine Ex_iload_n dX12_judge_102 rfl rfl ?_
        refine Ex_iald12 (c := c) dX12_judge_103 rfl (ma3 M) rfl (by omega) ?_
        refine Ex_i2l dX12_judge_104 rfl (by omega) ?_
        refine Ex_lcmp dX12_judge_105 rfl (by omega) ?_
        refine Ex_if_ne (t := 114) dX12_judge_106 rfl rfl (by omega) (fun c106 => absurd c106 (by omega)) (fun c106 => ?_)
        refine Ex_bipush dX12_judge_109 rfl (by decide) ?_
        refine Ex_goto (t := 116) dX12_judge_111 rfl ?_
        refine Ex_istore (L2 := [_, _, _, _, _, _, _, _]) dX12_judge_116 rfl rfl rfl ?_
        refine Ex_iinc (L2 := [_, _, _, _, _, _, _, _]) dX12_judge_118 rfl rfl rfl ?_
        refine Ex_goto (t := 45) dX12_judge_121 rfl ?_
        refine Ex_iload dX12_judge_45 rfl rfl ?_
        refine Ex_aload_n dX12_judge_47 rfl rfl ?_
        refine Ex_getf dX12_judge_48 rfl (ma0 M) rfl rfl rfl ?_
        refine Ex_iload_n dX12_judge_51 rfl rfl ?_
        refine Ex_iald12 (c := a) dX12_judge_52 rfl (ma10 M) (by omega) (by omega) ?_
        rw [hlen]
        refine Ex_icmp_ge (t := 124) dX12_judge_53 rfl rfl (by omega) (fun c53 => absurd c53 (by omega)) (fun c53 => ?_)
        refine Ex_iload dX12_judge_56 rfl rfl ?_
        refine Ex_if_ge (t := 124) dX12_judge_58 rfl rfl (by omega) (fun c58 => absurd c58 (by omega)) (fun c58 => ?_)
        refine Ex_iload dX12_judge_61 rfl rfl ?_
        refine Ex_if_le (t := 71) dX12_judge_63 rfl rfl (by omega) (fun c63 => absurd c63 (by omega)) (fun c63 => ?_)
        refine Ex_aload_n dX12_judge_66 rfl rfl ?_
        refine Ex_inv 2 dX12_judge_67 rfl rfl (Or.inl rfl) rfl rfl rfl rfl (ma0 M) rfl rfl rfl (Ex_post (x12_nextTurn M hn hn6 hgX hK hB h6 h33 htu) ?_)
        rintro _ h51_ ⟨rfl, ⟨g9_, M51_, t6, t33, e9⟩, f51_⟩
        refine Ex_pop dX12_judge_70 rfl rfl ?_
        refine Ex_post (ih (i + 1) _ _ _ _ _ _ _ (by omega) M51_ (by rw [e9 _ (by decide) (by decide)]; exact hn) t6 t33 (by rw [e9 _ (by decide) (by decide)]; exact h23) hσ hpk (tst_r hgX (fun i hi => (hK i hi).2)) (tst_tu htu) hso9 hlen hx) ?_
        rintro r1 h1 ⟨rfl, y1, y2⟩
        exact ⟨rfl, y1, ((Fr.rf _ _ _).trans f51_).trans y2⟩
