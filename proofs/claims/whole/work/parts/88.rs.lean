/-! the reference: element (by program: wip/whole/spec_rs.py) -/
/-- an element of a ROW: what is thrown (1 no shelf, 2 no such element), and the element -/
def el_t (hw : Nat → Int) (rx : Nat → List Int) (d i : Int) : Int := if 0 ≤ d ∧ d ≤ 7 then (if hw d.toNat = 2 ∧ (0 ≤ i ∧ i < ((rx d.toNat).length : Int)) then 0 else 2) else 1
def el_v (hw : Nat → Int) (rx : Nat → List Int) (d i : Int) : Int := if (0 ≤ d ∧ d ≤ 7) ∧ hw d.toNat = 2 ∧ (0 ≤ i ∧ i < ((rx d.toNat).length : Int)) then (rx d.toNat).getD i.toNat 0 else 0
/-- as MI, and what was thrown last -/
def MI13 (h : Hp) (m : Nat) (X : RS) (hi : Int) (σ : Nat → Nat → Int) (w : Int) : Prop := ∃ (g : Nat → Int) (ρ : Nat → Nat → Int) (kp : Value), MAt h m g X.2.2.1 X.2.2.2.1 X.2.2.2.2.1 X.2.2.2.2.2.1 X.2.2.2.2.2.2 ρ kp ∧ g 0 = (X.1 : Int) ∧ g 6 = X.2.1 ∧ g 23 = hi ∧ (∀ j, (6 ≤ j ∧ j ≤ 11) ∨ j = 16 → ρ j = σ j) ∧ g 13 = w
theorem MI13.mi {h : Hp} {m : Nat} {X : RS} {hi w : Int} {σ : Nat → Nat → Int} (I : MI13 h m X hi σ w) : MI h m X hi σ := by
  obtain ⟨g, ρ, kp, a, b, c, d, e, f⟩ := I
  exact ⟨g, ρ, kp, a, b, c, d, e⟩
theorem x12_thrown13 {E : am_E} {d : Nat} {h : Hp} {m : Nat} {X : RS} {hi w : Int} {σ : Nat → Nat → Int}  (I : MI13 h m X hi σ w)  : Ex E d mX12_thrown 0 [.ref m] [] h (fun r1 h1 => r1 = some (.int (i32 w)) ∧ h1 = h) := by
  obtain ⟨g, ρ, kp, M, hn, h6, h23, hσ, h13⟩ := I
  rw [← h13]
  exact x12_thrown M
theorem x12_element {E : am_E} {d : Nat} {h : Hp} {m n : Nat} {mm hi : Int} {K F T S C : Nat → Int} {σ : Nat → Nat → Int} {hw ck cf rs : Nat → Int} {rx : Nat → List Int} {a p : Int}  (I : MI h m (n, mm, K, F, T, S, C) hi σ) (hn6 : n ≤ 6) (hg : Rng n T S C) (hK : ∀ i, i < n → (0 ≤ K i ∧ K i ≤ 7) ∧ (0 ≤ F i ∧ F i ≤ 9)) (hB : E.2 ≤ m) (V : Sv σ hw ck cf rs rx) (ha : (-2147483648 ≤ a ∧ a ≤ 2147483647)) (hp : (-2147483648 ≤ p ∧ p ≤ 2147483647))  : Ex E (d + 2) mX12_element 0 [.ref m, .int (i32 a), .int (i32 p), .retAddr 0] [] h (fun r1 h1 => r1 = some (.long (i64 (el_v hw rx a p))) ∧ (∃ σ2, MI13 h1 m (n, mm, K, F, T, S, C) hi σ2 (el_t hw rx a p) ∧ Sv σ2 hw ck cf rs rx ∧ σ2 16 = σ 16) ∧ Fr h h1 m (m + 23)) := by
  obtain ⟨g, ρ, kp, M, hn, h6, h23, hσ⟩ := I
  have M : MAt h m g K F T S C ρ kp := M
  have hn : g 0 = (n : Int) := hn
  have h6 : g 6 = mm := h6
  have V : Sv ρ hw ck cf rs rx := V.cg hσ
  have h16 : ρ 16 = σ 16 := hσ 16 (Or.inr rfl)
  clear hσ
  have hσ : ∀ j, (6 ≤ j ∧ j ≤ 11) ∨ j = 16 → ρ j = ρ j := fun _ _ => rfl
  by_cases q : (0 ≤ a ∧ a ≤ 7) ∧ hw a.toNat = 2
  · by_cases q2 : 0 ≤ p ∧ p < ((rx a.toNat).length : Int)
    · have ev : el_v hw rx a p = (rx a.toNat).getD p.toNat 0 := if_pos ⟨q.1, q.2, q2⟩
      have et : el_t hw rx a p = 0 := by unfold el_t; rw [if_pos q.1]; exact if_pos ⟨q.2, q2⟩
      rw [ev, et]
      obtain ⟨p, rfl⟩ := Int.eq_ofNat_of_zero_le q2.1
      obtain ⟨a, rfl⟩ := Int.eq_ofNat_of_zero_le q.1.1
      simp only [Int.toNat_natCast] at *
      obtain ⟨v6, v3, vk, vr⟩ := V a (by omega)
      obtain ⟨w1, w2, w3, w4⟩ := vr q.2
      refine Ex_aload_n dX12_element_0 rfl rfl ?_
      refine Ex_iload_n dX12_element_1 rfl rfl ?_
      refine Ex_inv 2 dX12_element_2 rfl rfl (Or.inl rfl) rfl rfl rfl rfl (ma0 M) rfl rfl rfl (Ex_post (x12_wR M V (by omega)) ?_)
      rintro _ _ ⟨rfl, e0⟩
      obtain rfl := Eq.symm e0
      rw [if_pos ⟨q.1, q.2⟩]
      refine Ex_istore_n (L2 := [_, _, _, _]) dX12_element_5 rfl rfl rfl ?_
      refine Ex_aload_n dX12_element_6 rfl rfl ?_
      refine Ex_iload_n dX12_element_7 rfl rfl ?_
      refine Ex_iconst dX12_element_8 rfl ?_
      refine Ex_icmp_ne (t := 16) dX12_element_9 rfl rfl (by omega) (fun c9 => ?_) (fun c9 => absurd c9 (by omega))
      refine Ex_iload_n dX12_element_16 rfl rfl ?_
      refine Ex_if_lt (t := 38) dX12_element_17 rfl rfl (by omega) (fun c17 => absurd c17 (by omega)) (fun c17 => ?_)
      refine Ex_iload_n dX12_element_20 rfl rfl ?_
      refine Ex_i2l dX12_element_21 rfl (by omega) ?_
      refine Ex_lconst (z := 0) dX12_element_22 rfl (by decide) ?_
      refine Ex_aload_n dX12_element_23 rfl rfl ?_
      refine Ex_getf dX12_element_24 rfl (ma0 M) rfl rfl rfl ?_
      refine Ex_iload_n dX12_element_27 rfl rfl ?_
      refine Ex_iald12 (c := a) dX12_element_28 rfl (ma10 M) rfl (by omega) ?_
      rw [w2]
      refine Ex_iconst dX12_element_29 rfl ?_
      refine Ex_isub dX12_element_30 rfl ?_
      refine Ex_i2l dX12_element_31 rfl (by omega) ?_
      refine Ex_stat 0 dX12_element_32 rfl rfl (Or.inl rfl) rfl rfl rfl rfl rfl rfl (Ex_post (x12_in (by omega) (by omega) (by omega)) ?_)
      rintro _ _ ⟨rfl, e0⟩
      obtain rfl := Eq.symm e0
      refine Ex_if_ne (t := 42) dX12_element_35 rfl rfl (by omega) (fun c35 => ?_) (fun c35 => absurd c35 (by omega))
      refine Ex_iconst dX12_element_42 rfl ?_
      refine Ex_put12 (k0 := 13) (v := 0) dX12_element_43 rfl (ma0 M) rfl rfl rfl rfl rfl (by omega) rfl ?_
      refine mg0 M ?_
      intro h1_ M1_ f1_
      refine Ex_aload_n dX12_element_46 rfl rfl ?_
      refine Ex_getf dX12_element_47 rfl (ma0 M1_) rfl rfl rfl ?_
      rw [show (fu g 13 0) 13 = 0 from rfl]
      refine Ex_if_le (t := 57) dX12_element_50 rfl rfl (by omega) (fun c50 => ?_) (fun c50 => absurd c50 (by omega))
      refine Ex_aload_n dX12_element_57 rfl rfl ?_
      refine Ex_getf dX12_element_58 rfl (ma0 M1_) rfl rfl rfl ?_
      refine Ex_bipush dX12_element_61 rfl (by decide) ?_
      refine Ex_iload_n dX12_element_63 rfl rfl ?_
      refine Ex_imul dX12_element_64 rfl ?_
      refine Ex_iload_n dX12_element_65 rfl rfl ?_
      refine Ex_iadd dX12_element_66 rfl ?_
      refine Ex_lald12 (c := (100 * a + p)) dX12_element_67 rfl (ma11 M1_) (by omega) (by omega) ?_
      refine Ex_lret dX12_element_68 rfl ?_
      rw [(w4 p (by omega)).1]
      exact ⟨rfl, ⟨_, ⟨_, _, _, M1_, hn, h6, h23, fun _ _ => rfl, rfl⟩, V, h16⟩, f1_⟩
    · have ev : el_v hw rx a p = 0 := if_neg (fun z => q2 z.2.2)
      have et : el_t hw rx a p = 2 := by unfold el_t; rw [if_pos q.1]; exact if_neg (fun z => q2 z.2)
      rw [ev, et]
      obtain ⟨a, rfl⟩ := Int.eq_ofNat_of_zero_le q.1.1
      simp only [Int.toNat_natCast] at *
      obtain ⟨v6, v3, vk, vr⟩ := V a (by omega)
      obtain ⟨w1, w2, w3, w4⟩ := vr q.2
      refine Ex_aload_n dX12_element_0 rfl rfl ?_
      refine Ex_iload_n dX12_element_1 rfl rfl ?_
      refine Ex_inv 2 dX12_element_2 rfl rfl (Or.inl rfl) rfl rfl rfl rfl (ma0 M) rfl rfl rfl (Ex_post (x12_wR M V (by omega)) ?_)
      rintro _ _ ⟨rfl, e0⟩
      obtain rfl := Eq.symm e0
      rw [if_pos ⟨q.1, q.2⟩]
      refine Ex_istore_n (L2 := [_, _, _, _]) dX12_element_5 rfl rfl rfl ?_
      refine Ex_aload_n dX12_element_6 rfl rfl ?_
      refine Ex_iload_n dX12_element_7 rfl rfl ?_
      refine Ex_iconst dX12_element_8 rfl ?_
      refine Ex_icmp_ne (t := 16) dX12_element_9 rfl rfl (by omega) (fun c9 => ?_) (fun c9 => absurd c9 (by omega))
      refine Ex_iload_n dX12_element_16 rfl rfl ?_
      refine Ex_if_lt (t := 38) dX12_element_17 rfl rfl (by omega) (fun c17 => absurd c17 (by omega)) (fun c17 => ?_)
      refine Ex_iload_n dX12_element_20 rfl rfl ?_
      refine Ex_i2l dX12_element_21 rfl (by omega) ?_
      refine Ex_lconst (z := 0) dX12_element_22 rfl (by decide) ?_
      refine Ex_aload_n dX12_element_23 rfl rfl ?_
      refine Ex_getf dX12_element_24 rfl (ma0 M) rfl rfl rfl ?_
      refine Ex_iload_n dX12_element_27 rfl rfl ?_
      refine Ex_iald12 (c := a) dX12_element_28 rfl (ma10 M) rfl (by omega) ?_
      rw [w2]
      refine Ex_iconst dX12_element_29 rfl ?_
      refine Ex_isub dX12_element_30 rfl ?_
      refine Ex_i2l dX12_element_31 rfl (by omega) ?_
      refine Ex_stat 0 dX12_element_32 rfl rfl (Or.inl rfl) rfl rfl rfl rfl rfl rfl (Ex_post (x12_in (by omega) (by omega) (by omega)) ?_)
      rintro _ _ ⟨rfl, e0⟩
      obtain rfl := Eq.symm e0
      refine Ex_if_ne (t := 42) dX12_element_35 rfl rfl (by omega) (fun c35 => absurd c35 (by omega)) (fun c35 => ?_)
      refine Ex_iconst dX12_element_38 rfl ?_
      refine Ex_goto (t := 43) dX12_element_39 rfl ?_
      refine Ex_put12 (k0 := 13) (v := 2) dX12_element_43 rfl (ma0 M) rfl rfl rfl rfl rfl (by omega) rfl ?_
      refine mg0 M ?_
      intro h1_ M1_ f1_
      refine Ex_aload_n dX12_element_46 rfl rfl ?_
      refine Ex_getf dX12_element_47 rfl (ma0 M1_) rfl rfl rfl ?_
      rw [show (fu g 13 2) 13 = 2 from rfl]
      refine Ex_if_le (t := 57) dX12_element_50 rfl rfl (by omega) (fun c50 => absurd c50 (by omega)) (fun c50 => ?_)
      refine Ex_lconst (z := 0) dX12_element_53 rfl (by decide) ?_
      refine Ex_goto (t := 68) dX12_element_54 rfl ?_
      refine Ex_lret dX12_element_68 rfl ?_
      exact ⟨rfl, ⟨_, ⟨_, _, _, M1_, hn, h6, h23, fun _ _ => rfl, rfl⟩, V, h16⟩, f1_⟩
  · by_cases q1 : 0 ≤ a ∧ a ≤ 7
    · have ev : el_v hw rx a p = 0 := if_neg (fun z => q ⟨z.1, z.2.1⟩)
      have et : el_t hw rx a p = 2 := by unfold el_t; rw [if_pos q1]; exact if_neg (fun z => q ⟨q1, z.1⟩)
      rw [ev, et]
      have gw : why hw a ≤ -11 ∧ -12 ≤ why hw a := by unfold why; rw [if_pos q1]; split <;> omega
      refine Ex_aload_n dX12_element_0 rfl rfl ?_
      refine Ex_iload_n dX12_element_1 rfl rfl ?_
      refine Ex_inv 2 dX12_element_2 rfl rfl (Or.inl rfl) rfl rfl rfl rfl (ma0 M) rfl rfl rfl (Ex_post (x12_wR M V (by omega)) ?_)
      rintro _ _ ⟨rfl, e0⟩
      obtain rfl := Eq.symm e0
      rw [if_neg q]
      refine Ex_istore_n (L2 := [_, _, _, _]) dX12_element_5 rfl rfl rfl ?_
      refine Ex_aload_n dX12_element_6 rfl rfl ?_
      refine Ex_iload_n dX12_element_7 rfl rfl ?_
      refine Ex_iconst dX12_element_8 rfl ?_
      refine Ex_icmp_ne (t := 16) dX12_element_9 rfl rfl (by omega) (fun c9 => ?_) (fun c9 => absurd c9 (by omega))
      refine Ex_iload_n dX12_element_16 rfl rfl ?_
      refine Ex_if_lt (t := 38) dX12_element_17 rfl rfl (by omega) (fun c17 => ?_) (fun c17 => absurd c17 (by omega))
      refine Ex_iconst dX12_element_38 rfl ?_
      refine Ex_goto (t := 43) dX12_element_39 rfl ?_
      refine Ex_put12 (k0 := 13) (v := 2) dX12_element_43 rfl (ma0 M) rfl rfl rfl rfl rfl (by omega) rfl ?_
      refine mg0 M ?_
      intro h1_ M1_ f1_
      refine Ex_aload_n dX12_element_46 rfl rfl ?_
      refine Ex_getf dX12_element_47 rfl (ma0 M1_) rfl rfl rfl ?_
      rw [show (fu g 13 2) 13 = 2 from rfl]
      refine Ex_if_le (t := 57) dX12_element_50 rfl rfl (by omega) (fun c50 => absurd c50 (by omega)) (fun c50 => ?_)
      refine Ex_lconst (z := 0) dX12_element_53 rfl (by decide) ?_
      refine Ex_goto (t := 68) dX12_element_54 rfl ?_
      refine Ex_lret dX12_element_68 rfl ?_
      exact ⟨rfl, ⟨_, ⟨_, _, _, M1_, hn, h6, h23, fun _ _ => rfl, rfl⟩, V, h16⟩, f1_⟩
    · have ev : el_v hw rx a p = 0 := if_neg (fun z => q1 z.1)
      have et : el_t hw rx a p = 1 := if_neg q1
      rw [ev, et]
      have gw1 : why hw a = -1 := by unfold why; exact if_neg q1
      refine Ex_aload_n dX12_element_0 rfl rfl ?_
      refine Ex_iload_n dX12_element_1 rfl rfl ?_
      refine Ex_inv 2 dX12_element_2 rfl rfl (Or.inl rfl) rfl rfl rfl rfl (ma0 M) rfl rfl rfl (Ex_post (x12_wR M V (by omega)) ?_)
      rintro _ _ ⟨rfl, e0⟩
      obtain rfl := Eq.symm e0
      rw [if_neg q, gw1]
      refine Ex_istore_n (L2 := [_, _, _, _]) dX12_element_5 rfl rfl rfl ?_
      refine Ex_aload_n dX12_element_6 rfl rfl ?_
      refine Ex_iload_n dX12_element_7 rfl rfl ?_
      refine Ex_iconst dX12_element_8 rfl ?_
      refine Ex_icmp_ne (t := 16) dX12_element_9 rfl rfl (by omega) (fun c9 => absurd c9 (by omega)) (fun c9 => ?_)
      refine Ex_iconst dX12_element_12 rfl ?_
      refine Ex_goto (t := 43) dX12_element_13 rfl ?_
      refine Ex_put12 (k0 := 13) (v := 1) dX12_element_43 rfl (ma0 M) rfl rfl rfl rfl rfl (by omega) rfl ?_
      refine mg0 M ?_
      intro h1_ M1_ f1_
      refine Ex_aload_n dX12_element_46 rfl rfl ?_
      refine Ex_getf dX12_element_47 rfl (ma0 M1_) rfl rfl rfl ?_
      rw [show (fu g 13 1) 13 = 1 from rfl]
      refine Ex_if_le (t := 57) dX12_element_50 rfl rfl (by omega) (fun c50 => absurd c50 (by omega)) (fun c50 => ?_)
      refine Ex_lconst (z := 0) dX12_element_53 rfl (by decide) ?_
      refine Ex_goto (t := 68) dX12_element_54 rfl ?_
      refine Ex_lret dX12_element_68 rfl ?_
      exact ⟨rfl, ⟨_, ⟨_, _, _, M1_, hn, h6, h23, fun _ _ => rfl, rfl⟩, V, h16⟩, f1_⟩
