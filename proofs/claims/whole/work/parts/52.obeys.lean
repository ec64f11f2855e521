/-! STATEMENTS done (by program: wip/whole/spec_j.py) -/
theorem x7_obeysCome {E : am_E} {d : Nat} {h : Hp} {r y n : Nat} {m tu : Int} {kr : Nat → Nat} {K F T S C : Nat → Int} {a b t : Int}  (R : RailAt h r n m tu kr T S C) (hg : Rng n T S C) (ky : KY h y n kr K F) (w : WF h) (hB : E.2 ≤ r) (hy : r + 9 ≤ y) (hyh : y ≤ h.2.1) (ha : 0 ≤ a ∧ a ≤ 9) (hb : 0 ≤ b ∧ b ≤ 9) (ht : 0 ≤ t ∧ t ≤ 99) : Ex E (d + 5) mX7_obeysCome 0 [.ref r, .int (i32 a), .int (i32 b), .int (i32 t)] [] h (fun r1 h1 => Obd h h1 r y tu r1 (if n < 6 ∧ a ≤ 7 ∧ t ≤ 20 then some (rsC a b t (n, m, K, F, T, S, C)) else none)) := by
  obtain ⟨hr, hA, hP, hG, hn6⟩ := id R
  have kk := ky.ok hy
  by_cases q : n < 6 ∧ a ≤ 7 ∧ t ≤ 20
  · rw [if_pos q]
    refine Ex_aload_n dX7_obeysCome_0 rfl rfl ?_
    refine Ex_inv 2 dX7_obeysCome_1 rfl rfl (Or.inl rfl) rfl rfl rfl rfl (by first | exact hr | exact hA | exact hP _ (by omega)) rfl rfl rfl (Ex_post (x7_hasRoom R) ?_)
    rintro _ _ ⟨rfl, e0⟩
    obtain rfl := Eq.symm e0
    refine Ex_if_eq (t := 19) dX7_obeysCome_4 rfl rfl (by omega) (fun c4 => absurd c4 (by omega)) (fun c4 => ?_)
    refine Ex_iload_n dX7_obeysCome_7 rfl rfl ?_
    refine Ex_bipush dX7_obeysCome_8 rfl (by decide) ?_
    refine Ex_icmp_gt (t := 19) dX7_obeysCome_10 rfl rfl (by omega) (fun c10 => absurd c10 (by omega)) (fun c10 => ?_)
    refine Ex_iload_n dX7_obeysCome_13 rfl rfl ?_
    refine Ex_bipush dX7_obeysCome_14 rfl (by decide) ?_
    refine Ex_icmp_le (t := 21) dX7_obeysCome_16 rfl rfl (by omega) (fun c16 => ?_) (fun c16 => absurd c16 (by omega))
    refine Ex_aload_n dX7_obeysCome_21 rfl rfl ?_
    refine Ex_iload_n dX7_obeysCome_22 rfl rfl ?_
    refine Ex_iload_n dX7_obeysCome_23 rfl rfl ?_
    refine Ex_stat 0 dX7_obeysCome_24 rfl rfl (Or.inl rfl) rfl rfl rfl rfl rfl rfl (Ex_post (x1_of (by omega) (by omega) hb) ?_)
    rintro _ h2 ⟨rfl, kn2, e2, q2⟩
    have g1 := of_gr w e2 q2 r
    have R2 := g1.rail R (by omega)
    refine Ex_iload_n dX7_obeysCome_27 rfl rfl ?_
    refine Ex_inv 2 dX7_obeysCome_28 rfl rfl (Or.inl rfl) rfl rfl rfl rfl R2.1 rfl rfl rfl (Ex_post (x7_add R2 hB q.1) ?_)
    rintro _ h3 ⟨rfl, R3, f3⟩
    obtain ⟨hr3, -⟩ := id R3
    refine Ex_iconst dX7_obeysCome_31 rfl ?_
    refine Ex_iret dX7_obeysCome_32 rfl rfl ?_
    have e21 : h2.2.1 = h.2.1 + 2 := by rw [e2]
    have g3 := f3.gr g1.2.1 (by omega) 0 0
    refine ⟨rfl, ⟨_, R3, ?_, ?_⟩, ((g1.wide (lo2 := r) (hi2 := r + 9) (c2 := 2) (s2 := 16) (by omega) (by omega) (by omega) (by omega)).trans g3)⟩
    · intro i hi
      by_cases e : i = n
      · subst e; rw [fu_at, fu_at, fu_at]; omega
      · rw [fu_ne e, fu_ne e, fu_ne e]; exact hg i (by omega)
    · intro i hi
      by_cases e : i = n
      · subst e
        rw [fu_at, fu_at]
        refine ⟨?_, ?_⟩
        · simp only [fuN, if_true]
          exact g3.kind kn2 (by omega)
        · simp only [fuN, if_true]
          exact hyh
      · rw [fu_ne e, fu_ne e]
        simp only [fuN, e, if_false]
        refine ⟨g3.kind (g1.kind (ky i (by omega)).1 ?_) ?_, (ky i (by omega)).2⟩
        · have := (ky i (by omega)).2; omega
        · have := (ky i (by omega)).2; omega
  · rw [if_neg q]
    refine Ex_aload_n dX7_obeysCome_0 rfl rfl ?_
    refine Ex_inv 2 dX7_obeysCome_1 rfl rfl (Or.inl rfl) rfl rfl rfl rfl (by first | exact hr | exact hA | exact hP _ (by omega)) rfl rfl rfl (Ex_post (x7_hasRoom R) ?_)
    rintro _ _ ⟨rfl, e0⟩
    obtain rfl := Eq.symm e0
    refine Ex_if_eq (t := 19) dX7_obeysCome_4 rfl rfl (by omega) (fun c4 => ?_) (fun c4 => ?_)
    · refine Ex_iconst dX7_obeysCome_19 rfl ?_
      refine Ex_iret dX7_obeysCome_20 rfl rfl ?_
      exact ⟨rfl, rfl⟩
    · refine Ex_iload_n dX7_obeysCome_7 rfl rfl ?_
      refine Ex_bipush dX7_obeysCome_8 rfl (by decide) ?_
      refine Ex_icmp_gt (t := 19) dX7_obeysCome_10 rfl rfl (by omega) (fun c10 => ?_) (fun c10 => ?_)
      · refine Ex_iconst dX7_obeysCome_19 rfl ?_
        refine Ex_iret dX7_obeysCome_20 rfl rfl ?_
        exact ⟨rfl, rfl⟩
      · refine Ex_iload_n dX7_obeysCome_13 rfl rfl ?_
        refine Ex_bipush dX7_obeysCome_14 rfl (by decide) ?_
        refine Ex_icmp_le (t := 21) dX7_obeysCome_16 rfl rfl (by omega) (fun c16 => ?_) (fun c16 => ?_)
        · exfalso; omega
        · refine Ex_iconst dX7_obeysCome_19 rfl ?_
          refine Ex_iret dX7_obeysCome_20 rfl rfl ?_
          exact ⟨rfl, rfl⟩
theorem x7_obeysMinute {E : am_E} {d : Nat} {h : Hp} {r y n : Nat} {m tu : Int} {kr : Nat → Nat} {K F T S C : Nat → Int} {a b : Int}  (R : RailAt h r n m tu kr T S C) (hg : Rng n T S C) (ky : KY h y n kr K F) (w : WF h) (hB : E.2 ≤ r) (hy : r + 9 ≤ y) (hyh : y ≤ h.2.1) (ha : 0 ≤ a ∧ a ≤ 9) (hb : 0 ≤ b ∧ b ≤ 9) (hm : 0 ≤ m ∧ m ≤ 100000) : Ex E (d + 5) mX7_obeysMinute 0 [.ref r, .int (i32 a), .int (i32 b)] [] h (fun r1 h1 => Obd h h1 r y tu r1 (if ((0 ≤ a ∧ a < (n : Int)) ∧ S a.toNat < 7 ∧ (0 ≤ b ∧ b ≤ 3)) ∧ m < 999 then some (rsM a.toNat b (n, m, K, F, T, S, C)) else none)) := by
  obtain ⟨hr, hA, hP, hG, hn6⟩ := id R
  have kk := ky.ok hy
  by_cases q1 : (0 ≤ a ∧ a < (n : Int)) ∧ S a.toNat < 7 ∧ (0 ≤ b ∧ b ≤ 3)
  by_cases q2 : m < 999
  · rw [if_pos ⟨q1, q2⟩]
    obtain ⟨c, rfl⟩ := Int.eq_ofNat_of_zero_le ha.1
    refine Ex_aload_n dX7_obeysMinute_0 rfl rfl ?_
    refine Ex_iload_n dX7_obeysMinute_1 rfl rfl ?_
    refine Ex_iload_n dX7_obeysMinute_2 rfl rfl ?_
    refine Ex_inv 2 dX7_obeysMinute_3 rfl rfl (Or.inl rfl) rfl rfl rfl rfl (by first | exact hr | exact hA | exact hP _ (by omega)) rfl rfl rfl (Ex_post (x7_canTake R hg (by omega) (by omega)) ?_)
    rintro _ _ ⟨rfl, e0⟩
    obtain rfl := Eq.symm e0
    refine Ex_if_eq (t := 19) dX7_obeysMinute_6 rfl rfl (by rw [if_pos q1]; omega) (fun c6 => absurd c6 (by rw [if_pos q1] at c6; omega)) (fun c6 => ?_)
    refine Ex_aload_n dX7_obeysMinute_9 rfl rfl ?_
    refine Ex_getf dX7_obeysMinute_10 rfl (by first | exact hr | exact hA | exact hP _ (by omega)) rfl rfl rfl ?_
    refine Ex_sipush dX7_obeysMinute_13 rfl (by decide) ?_
    refine Ex_icmp_lt (t := 21) dX7_obeysMinute_16 rfl rfl (by omega) (fun c16 => ?_) (fun c16 => absurd c16 (by omega))
    refine Ex_aload_n dX7_obeysMinute_21 rfl rfl ?_
    refine Ex_iload_n dX7_obeysMinute_22 rfl rfl ?_
    refine Ex_iload_n dX7_obeysMinute_23 rfl rfl ?_
    refine Ex_inv 2 dX7_obeysMinute_24 rfl rfl (Or.inl rfl) rfl rfl rfl rfl (by first | exact hr | exact hA | exact hP _ (by omega)) rfl rfl rfl (Ex_post (x7_take R hg kk hB (by omega) (by simpa using q1.2.1) (by omega)) ?_)
    rintro _ h2 ⟨rfl, R2, f2⟩
    refine Ex_pop dX7_obeysMinute_27 rfl rfl ?_
    refine Ex_iconst dX7_obeysMinute_28 rfl ?_
    refine Ex_iret dX7_obeysMinute_29 rfl rfl ?_
    refine ⟨rfl, ⟨_, R2, ?_, ?_⟩, f2.gr w (by omega) _ _⟩
    · exact min_r hg (fun i hi => (ky i hi).1.2.2.2) (by omega) (by simpa using q1.2.1)
    · exact ky.fr f2 (by omega)
  · rw [if_neg (fun z => q2 z.2)]
    refine Ex_aload_n dX7_obeysMinute_0 rfl rfl ?_
    refine Ex_iload_n dX7_obeysMinute_1 rfl rfl ?_
    refine Ex_iload_n dX7_obeysMinute_2 rfl rfl ?_
    refine Ex_inv 2 dX7_obeysMinute_3 rfl rfl (Or.inl rfl) rfl rfl rfl rfl (by first | exact hr | exact hA | exact hP _ (by omega)) rfl rfl rfl (Ex_post (x7_canTake R hg (by omega) (by omega)) ?_)
    rintro _ _ ⟨rfl, e0⟩
    obtain rfl := Eq.symm e0
    refine Ex_if_eq (t := 19) dX7_obeysMinute_6 rfl rfl (by rw [if_pos q1]; omega) (fun c6 => absurd c6 (by rw [if_pos q1] at c6; omega)) (fun c6 => ?_)
    refine Ex_aload_n dX7_obeysMinute_9 rfl rfl ?_
    refine Ex_getf dX7_obeysMinute_10 rfl (by first | exact hr | exact hA | exact hP _ (by omega)) rfl rfl rfl ?_
    refine Ex_sipush dX7_obeysMinute_13 rfl (by decide) ?_
    refine Ex_icmp_lt (t := 21) dX7_obeysMinute_16 rfl rfl (by omega) (fun c16 => absurd c16 (by omega)) (fun c16 => ?_)
    refine Ex_iconst dX7_obeysMinute_19 rfl ?_
    refine Ex_iret dX7_obeysMinute_20 rfl rfl ?_
    exact ⟨rfl, rfl⟩
  · rw [if_neg (fun z => q1 z.1)]
    refine Ex_aload_n dX7_obeysMinute_0 rfl rfl ?_
    refine Ex_iload_n dX7_obeysMinute_1 rfl rfl ?_
    refine Ex_iload_n dX7_obeysMinute_2 rfl rfl ?_
    refine Ex_inv 2 dX7_obeysMinute_3 rfl rfl (Or.inl rfl) rfl rfl rfl rfl (by first | exact hr | exact hA | exact hP _ (by omega)) rfl rfl rfl (Ex_post (x7_canTake R hg (by omega) (by omega)) ?_)
    rintro _ _ ⟨rfl, e0⟩
    obtain rfl := Eq.symm e0
    refine Ex_if_eq (t := 19) dX7_obeysMinute_6 rfl rfl (by rw [if_neg q1]; omega) (fun c6 => ?_) (fun c6 => absurd c6 (by rw [if_neg q1] at c6; omega))
    refine Ex_iconst dX7_obeysMinute_19 rfl ?_
    refine Ex_iret dX7_obeysMinute_20 rfl rfl ?_
    exact ⟨rfl, rfl⟩
theorem x7_obeysChange {E : am_E} {d : Nat} {h : Hp} {r y n : Nat} {m tu : Int} {kr : Nat → Nat} {K F T S C : Nat → Int} {a b : Int}  (R : RailAt h r n m tu kr T S C) (hg : Rng n T S C) (ky : KY h y n kr K F) (w : WF h) (hB : E.2 ≤ r) (hy : r + 9 ≤ y) (hyh : y ≤ h.2.1) (ha : 0 ≤ a ∧ a ≤ 9) (hb : 0 ≤ b ∧ b ≤ 9) : Ex E (d + 3) mX7_obeysChange 0 [.ref r, .int (i32 a), .int (i32 b)] [] h (fun r1 h1 => Obd h h1 r y tu r1 (if (0 ≤ a ∧ a < (n : Int)) ∧ (0 ≤ b ∧ b < (n : Int)) ∧ a ≠ b then some (rsX a.toNat b.toNat (n, m, K, F, T, S, C)) else none)) := by
  obtain ⟨hr, hA, hP, hG, hn6⟩ := id R
  have kk := ky.ok hy
  by_cases q : (0 ≤ a ∧ a < (n : Int)) ∧ (0 ≤ b ∧ b < (n : Int)) ∧ a ≠ b
  · rw [if_pos q]
    obtain ⟨a, rfl⟩ := Int.eq_ofNat_of_zero_le ha.1
    obtain ⟨b, rfl⟩ := Int.eq_ofNat_of_zero_le hb.1
    refine Ex_aload_n dX7_obeysChange_0 rfl rfl ?_
    refine Ex_iload_n dX7_obeysChange_1 rfl rfl ?_
    refine Ex_iload_n dX7_obeysChange_2 rfl rfl ?_
    refine Ex_inv 2 dX7_obeysChange_3 rfl rfl (Or.inl rfl) rfl rfl rfl rfl (by first | exact hr | exact hA | exact hP _ (by omega)) rfl rfl rfl (Ex_post (x7_hasTwo R (by omega) (by omega)) ?_)
    rintro _ _ ⟨rfl, e0⟩
    obtain rfl := Eq.symm e0
    refine Ex_if_ne (t := 11) dX7_obeysChange_6 rfl rfl (by first | (rw [if_pos q]; omega) | (rw [if_neg q]; omega)) (fun c6 => ?_) (fun c6 => absurd c6 (by first | (rw [if_pos q] at c6; omega) | (rw [if_neg q] at c6; omega)))
    refine Ex_aload_n dX7_obeysChange_11 rfl rfl ?_
    refine Ex_iload_n dX7_obeysChange_12 rfl rfl ?_
    refine Ex_iload_n dX7_obeysChange_13 rfl rfl ?_
    refine Ex_inv 2 dX7_obeysChange_14 rfl rfl (Or.inl rfl) rfl rfl rfl rfl (by first | exact hr | exact hA | exact hP _ (by omega)) rfl rfl rfl (Ex_post (x7_swap R hB (by omega) (by omega) (by omega)) ?_)
    rintro _ h2 ⟨rfl, R2, f2⟩
    refine Ex_iconst dX7_obeysChange_17 rfl ?_
    refine Ex_iret dX7_obeysChange_18 rfl rfl ?_
    refine ⟨rfl, ⟨_, R2, rng_sw hg (by omega) (by omega), ?_⟩, f2.gr w (by omega) _ _⟩
    have k2 := ky.fr f2 hy
    intro i hi
    show KindAt h2 (swN kr a b i) (sw K a b i) (sw F a b i) ∧ y ≤ swN kr a b i
    unfold swN sw
    by_cases c1 : i = b
    · simp only [c1, if_true]; exact k2 a (by omega)
    · by_cases c2 : i = a
      · subst c2; simp only [c1, if_true, if_false]; exact k2 b (by omega)
      · simp only [c1, c2, if_false]; exact k2 i hi
  · rw [if_neg q]
    refine Ex_aload_n dX7_obeysChange_0 rfl rfl ?_
    refine Ex_iload_n dX7_obeysChange_1 rfl rfl ?_
    refine Ex_iload_n dX7_obeysChange_2 rfl rfl ?_
    refine Ex_inv 2 dX7_obeysChange_3 rfl rfl (Or.inl rfl) rfl rfl rfl rfl (by first | exact hr | exact hA | exact hP _ (by omega)) rfl rfl rfl (Ex_post (x7_hasTwo R (by omega) (by omega)) ?_)
    rintro _ _ ⟨rfl, e0⟩
    obtain rfl := Eq.symm e0
    refine Ex_if_ne (t := 11) dX7_obeysChange_6 rfl rfl (by first | (rw [if_pos q]; omega) | (rw [if_neg q]; omega)) (fun c6 => absurd c6 (by first | (rw [if_pos q] at c6; omega) | (rw [if_neg q] at c6; omega))) (fun c6 => ?_)
    refine Ex_iconst dX7_obeysChange_9 rfl ?_
    refine Ex_iret dX7_obeysChange_10 rfl rfl ?_
    exact ⟨rfl, rfl⟩
theorem x7_obeysTrust {E : am_E} {d : Nat} {h : Hp} {r y n : Nat} {m tu : Int} {kr : Nat → Nat} {K F T S C : Nat → Int} {a b : Int}  (R : RailAt h r n m tu kr T S C) (hg : Rng n T S C) (ky : KY h y n kr K F) (w : WF h) (hB : E.2 ≤ r) (hy : r + 9 ≤ y) (hyh : y ≤ h.2.1) (ha : 0 ≤ a ∧ a ≤ 9) (hb : 0 ≤ b ∧ b ≤ 99) : Ex E (d + 2) mX7_obeysTrust 0 [.ref r, .int (i32 a), .int (i32 b)] [] h (fun r1 h1 => Obd h h1 r y tu r1 (if (0 ≤ a ∧ a < (n : Int)) ∧ b ≤ 20 then some (rsT a.toNat b (n, m, K, F, T, S, C)) else none)) := by
  obtain ⟨hr, hA, hP, hG, hn6⟩ := id R
  have kk := ky.ok hy
  by_cases q : (0 ≤ a ∧ a < (n : Int)) ∧ b ≤ 20
  · rw [if_pos q]
    obtain ⟨a, rfl⟩ := Int.eq_ofNat_of_zero_le ha.1
    refine Ex_aload_n dX7_obeysTrust_0 rfl rfl ?_
    refine Ex_iload_n dX7_obeysTrust_1 rfl rfl ?_
    refine Ex_inv 2 dX7_obeysTrust_2 rfl rfl (Or.inl rfl) rfl rfl rfl rfl (by first | exact hr | exact hA | exact hP _ (by omega)) rfl rfl rfl (Ex_post (x7_has R (by omega)) ?_)
    rintro _ _ ⟨rfl, e0⟩
    obtain rfl := Eq.symm e0
    refine Ex_if_eq (t := 14) dX7_obeysTrust_5 rfl rfl (by omega) (fun c5 => absurd c5 (by omega)) (fun c5 => ?_)
    refine Ex_iload_n dX7_obeysTrust_8 rfl rfl ?_
    refine Ex_bipush dX7_obeysTrust_9 rfl (by decide) ?_
    refine Ex_icmp_le (t := 16) dX7_obeysTrust_11 rfl rfl (by omega) (fun c11 => ?_) (fun c11 => absurd c11 (by omega))
    refine Ex_aload_n dX7_obeysTrust_16 rfl rfl ?_
    refine Ex_getf dX7_obeysTrust_17 rfl (by first | exact hr | exact hA | exact hP _ (by omega)) rfl rfl rfl ?_
    refine Ex_iload_n dX7_obeysTrust_20 rfl rfl ?_
    refine Ex_aald dX7_obeysTrust_21 rfl (by first | exact hr | exact hA | exact hP _ (by omega)) (by omega) (by omega) (rarr_get (by omega)) ?_
    refine Ex_iload_n dX7_obeysTrust_22 rfl rfl ?_
    refine Ex_putf (fs2 := [_, _, _, _]) dX7_obeysTrust_23 rfl (by first | exact hr | exact hA | exact hP _ (by omega)) rfl rfl rfl rfl rfl (by omega) rfl ?_
    try rw [am_put2]
    refine Ex_iconst dX7_obeysTrust_26 rfl ?_
    refine Ex_iret dX7_obeysTrust_27 rfl rfl ?_
    have R2 := R.pup1 (i := a) (t := b) (s := S a) (c := C a) (by omega)
    have hg2 := hg.fu (i := a) (t := b) (s := S a) (c := C a) (by omega) (hg a (by omega)).2.1 (hg a (by omega)).2.2
    rw [fu_same, fu_same] at R2 hg2
    have f2 : Fr h _ r (r + 9) := Fr.put (h := h) (a := r + 2 + a) (pcell (kr a) b (S a) (C a)) (by omega)
    exact ⟨rfl, ⟨_, R2, hg2, ky.fr f2 hy⟩, f2.gr w (by omega) _ _⟩
  · rw [if_neg q]
    refine Ex_aload_n dX7_obeysTrust_0 rfl rfl ?_
    refine Ex_iload_n dX7_obeysTrust_1 rfl rfl ?_
    refine Ex_inv 2 dX7_obeysTrust_2 rfl rfl (Or.inl rfl) rfl rfl rfl rfl (by first | exact hr | exact hA | exact hP _ (by omega)) rfl rfl rfl (Ex_post (x7_has R (by omega)) ?_)
    rintro _ _ ⟨rfl, e0⟩
    obtain rfl := Eq.symm e0
    refine Ex_if_eq (t := 14) dX7_obeysTrust_5 rfl rfl (by omega) (fun c5 => ?_) (fun c5 => ?_)
    · refine Ex_iconst dX7_obeysTrust_14 rfl ?_
      refine Ex_iret dX7_obeysTrust_15 rfl rfl ?_
      exact ⟨rfl, rfl⟩
    · refine Ex_iload_n dX7_obeysTrust_8 rfl rfl ?_
      refine Ex_bipush dX7_obeysTrust_9 rfl (by decide) ?_
      refine Ex_icmp_le (t := 16) dX7_obeysTrust_11 rfl rfl (by omega) (fun c11 => ?_) (fun c11 => ?_)
      · exfalso; omega
      · refine Ex_iconst dX7_obeysTrust_14 rfl ?_
        refine Ex_iret dX7_obeysTrust_15 rfl rfl ?_
        exact ⟨rfl, rfl⟩
theorem x7_obeysStep {E : am_E} {d : Nat} {h : Hp} {r y n : Nat} {m tu : Int} {kr : Nat → Nat} {K F T S C : Nat → Int} {a b : Int}  (R : RailAt h r n m tu kr T S C) (hg : Rng n T S C) (ky : KY h y n kr K F) (w : WF h) (hB : E.2 ≤ r) (hy : r + 9 ≤ y) (hyh : y ≤ h.2.1) (ha : 0 ≤ a ∧ a ≤ 9) (hb : 0 ≤ b ∧ b ≤ 99) : Ex E (d + 2) mX7_obeysStep 0 [.ref r, .int (i32 a), .int (i32 b)] [] h (fun r1 h1 => Obd h h1 r y tu r1 (if (0 ≤ a ∧ a < (n : Int)) ∧ b ≤ 7 then some (rsS a.toNat b (n, m, K, F, T, S, C)) else none)) := by
  obtain ⟨hr, hA, hP, hG, hn6⟩ := id R
  have kk := ky.ok hy
  by_cases q : (0 ≤ a ∧ a < (n : Int)) ∧ b ≤ 7
  · rw [if_pos q]
    obtain ⟨a, rfl⟩ := Int.eq_ofNat_of_zero_le ha.1
    refine Ex_aload_n dX7_obeysStep_0 rfl rfl ?_
    refine Ex_iload_n dX7_obeysStep_1 rfl rfl ?_
    refine Ex_inv 2 dX7_obeysStep_2 rfl rfl (Or.inl rfl) rfl rfl rfl rfl (by first | exact hr | exact hA | exact hP _ (by omega)) rfl rfl rfl (Ex_post (x7_has R (by omega)) ?_)
    rintro _ _ ⟨rfl, e0⟩
    obtain rfl := Eq.symm e0
    refine Ex_if_eq (t := 14) dX7_obeysStep_5 rfl rfl (by omega) (fun c5 => absurd c5 (by omega)) (fun c5 => ?_)
    refine Ex_iload_n dX7_obeysStep_8 rfl rfl ?_
    refine Ex_bipush dX7_obeysStep_9 rfl (by decide) ?_
    refine Ex_icmp_le (t := 16) dX7_obeysStep_11 rfl rfl (by omega) (fun c11 => ?_) (fun c11 => absurd c11 (by omega))
    refine Ex_aload_n dX7_obeysStep_16 rfl rfl ?_
    refine Ex_getf dX7_obeysStep_17 rfl (by first | exact hr | exact hA | exact hP _ (by omega)) rfl rfl rfl ?_
    refine Ex_iload_n dX7_obeysStep_20 rfl rfl ?_
    refine Ex_aald dX7_obeysStep_21 rfl (by first | exact hr | exact hA | exact hP _ (by omega)) (by omega) (by omega) (rarr_get (by omega)) ?_
    refine Ex_iload_n dX7_obeysStep_22 rfl rfl ?_
    refine Ex_putf (fs2 := [_, _, _, _]) dX7_obeysStep_23 rfl (by first | exact hr | exact hA | exact hP _ (by omega)) rfl rfl rfl rfl rfl (by omega) rfl ?_
    try rw [am_put2]
    refine Ex_iconst dX7_obeysStep_26 rfl ?_
    refine Ex_iret dX7_obeysStep_27 rfl rfl ?_
    have R2 := R.pup1 (i := a) (t := T a) (s := b) (c := C a) (by omega)
    have hg2 := hg.fu (i := a) (t := T a) (s := b) (c := C a) (hg a (by omega)).1 (by omega) (hg a (by omega)).2.2
    rw [fu_same, fu_same] at R2 hg2
    have f2 : Fr h _ r (r + 9) := Fr.put (h := h) (a := r + 2 + a) (pcell (kr a) (T a) b (C a)) (by omega)
    exact ⟨rfl, ⟨_, R2, hg2, ky.fr f2 hy⟩, f2.gr w (by omega) _ _⟩
  · rw [if_neg q]
    refine Ex_aload_n dX7_obeysStep_0 rfl rfl ?_
    refine Ex_iload_n dX7_obeysStep_1 rfl rfl ?_
    refine Ex_inv 2 dX7_obeysStep_2 rfl rfl (Or.inl rfl) rfl rfl rfl rfl (by first | exact hr | exact hA | exact hP _ (by omega)) rfl rfl rfl (Ex_post (x7_has R (by omega)) ?_)
    rintro _ _ ⟨rfl, e0⟩
    obtain rfl := Eq.symm e0
    refine Ex_if_eq (t := 14) dX7_obeysStep_5 rfl rfl (by omega) (fun c5 => ?_) (fun c5 => ?_)
    · refine Ex_iconst dX7_obeysStep_14 rfl ?_
      refine Ex_iret dX7_obeysStep_15 rfl rfl ?_
      exact ⟨rfl, rfl⟩
    · refine Ex_iload_n dX7_obeysStep_8 rfl rfl ?_
      refine Ex_bipush dX7_obeysStep_9 rfl (by decide) ?_
      refine Ex_icmp_le (t := 16) dX7_obeysStep_11 rfl rfl (by omega) (fun c11 => ?_) (fun c11 => ?_)
      · exfalso; omega
      · refine Ex_iconst dX7_obeysStep_14 rfl ?_
        refine Ex_iret dX7_obeysStep_15 rfl rfl ?_
        exact ⟨rfl, rfl⟩
theorem x7_obeys {E : am_E} {d : Nat} {h : Hp} {r y n : Nat} {m tu : Int} {kr : Nat → Nat} {K F T S C : Nat → Int} {a : Nat} {so at0 : Int} {xs : List Int}  (R : RailAt h r n m tu kr T S C) (hg : Rng n T S C) (ky : KY h y n kr K F) (w : WF h) (hB : E.2 ≤ r) (hy : r + 9 ≤ y) (hyh : y ≤ h.2.1) (W : RowAt h a so xs) (ha0 : 0 ≤ at0 ∧ at0 ≤ 900) (hl : 0 ≤ dB (gx xs at0)) (hd : ∀ i, 1 ≤ i → i ≤ dB (gx xs at0) → 48 ≤ gx xs (at0 + i) ∧ gx xs (at0 + i) ≤ 57) (hm : 0 ≤ m ∧ m ≤ 100000) : Ex E (d + 6) mX7_obeys 0 [.ref r, .ref a, .int (i32 at0), .retAddr 0, .retAddr 0] [] h (fun r1 h1 => Obd h h1 r y tu r1 (ob (gx xs at0) (gx xs (at0 + 1) - 48) (gx xs (at0 + 2) - 48) ((gx xs (at0 + 2) - 48) * 10 + gx xs (at0 + 2 + 1) - 48) ((gx xs (at0 + 3) - 48) * 10 + gx xs (at0 + 3 + 1) - 48) (n, m, K, F, T, S, C))) := by
  obtain ⟨hr, hA, hP, hG, hn6⟩ := id R
  have kk := ky.ok hy
  obtain ⟨w1, w2, w3, w4, w5⟩ := id W
  have hz := gx_r w5 at0
  rcases (show gx xs at0 = 98 ∨ gx xs at0 = 99 ∨ gx xs at0 = 109 ∨ gx xs at0 = 116 ∨ gx xs at0 = 120 ∨ gx xs at0 = 115 by unfold dB at hl; omega) with e | e | e | e | e | e
  · have d1 := hd 1 (by omega) (by rw [e]; decide)
    have eo : ob (gx xs at0) (gx xs (at0 + 1) - 48) (gx xs (at0 + 2) - 48) ((gx xs (at0 + 2) - 48) * 10 + gx xs (at0 + 2 + 1) - 48) ((gx xs (at0 + 3) - 48) * 10 + gx xs (at0 + 3 + 1) - 48) (n, m, K, F, T, S, C) = some (rsB (gx xs (at0 + 1) - 48) (n, m, K, F, T, S, C)) := by unfold ob; rw [if_neg (by omega), if_neg (by omega), if_pos e]
    rw [eo]
    refine Ex_aload_n dX7_obeys_0 rfl rfl ?_
    refine Ex_iload_n dX7_obeys_1 rfl rfl ?_
    refine Ex_iconst dX7_obeys_2 rfl ?_
    refine Ex_iadd dX7_obeys_3 rfl ?_
    refine Ex_iconst dX7_obeys_4 rfl ?_
    refine Ex_inv 2 dX7_obeys_5 rfl rfl (Or.inl rfl) rfl rfl rfl rfl w1 rfl rfl rfl (Ex_post (x8_number1 W (by omega)) ?_)
    rintro _ _ ⟨rfl, e0⟩
    obtain rfl := Eq.symm e0
    refine Ex_istore_n (L2 := [_, _, _, _, _]) dX7_obeys_8 rfl rfl rfl ?_
    refine Ex_aload_n dX7_obeys_9 rfl rfl ?_
    refine Ex_iload_n dX7_obeys_10 rfl rfl ?_
    refine Ex_iconst dX7_obeys_11 rfl ?_
    refine Ex_iadd dX7_obeys_12 rfl ?_
    refine Ex_iconst dX7_obeys_13 rfl ?_
    refine Ex_inv 2 dX7_obeys_14 rfl rfl (Or.inl rfl) rfl rfl rfl rfl w1 rfl rfl rfl (Ex_post (x8_number1 W (by omega)) ?_)
    rintro _ _ ⟨rfl, e0⟩
    obtain rfl := Eq.symm e0
    refine Ex_istore (L2 := [_, _, _, _, _]) dX7_obeys_17 rfl rfl rfl ?_
    refine Ex_aload_n dX7_obeys_19 rfl rfl ?_
    refine Ex_iload_n dX7_obeys_20 rfl rfl ?_
    refine Ex_inv 2 dX7_obeys_21 rfl rfl (Or.inl rfl) rfl rfl rfl rfl w1 rfl rfl rfl (Ex_post (x8_at W (by omega)) ?_)
    rintro _ _ ⟨rfl, e0⟩
    obtain rfl := Eq.symm e0
    skip
    · rw [e]
      refine Ex_look (off := 76) (t := 100) dX7_obeys_24 (by omega) rfl rfl rfl ?_
      refine Ex_aload_n dX7_obeys_100 rfl rfl ?_
      refine Ex_iload_n dX7_obeys_101 rfl rfl ?_
      refine Ex_inv 2 dX7_obeys_102 rfl rfl (Or.inl rfl) rfl rfl rfl rfl (by first | exact hr | exact w1) rfl rfl rfl (Ex_post (x7_pause R hg hB (by omega)) ?_)
      rintro _ h2 ⟨rfl, R2, f2⟩
      refine Ex_iconst dX7_obeys_105 rfl ?_
      refine Ex_iret dX7_obeys_106 rfl rfl ?_
      exact ⟨rfl, ⟨_, R2, br_r hg (by omega), ky.fr f2 hy⟩, f2.gr w (by omega) _ _⟩
  · have d1 := hd 1 (by omega) (by rw [e]; decide)
    have d2 := hd 2 (by omega) (by rw [e]; decide)
    have d3 := hd 3 (by omega) (by rw [e]; decide)
    have d4 := hd 4 (by omega) (by rw [e]; decide)
    rw [show at0 + 4 = at0 + 3 + 1 by omega] at d4
    have eo : ob (gx xs at0) (gx xs (at0 + 1) - 48) (gx xs (at0 + 2) - 48) ((gx xs (at0 + 2) - 48) * 10 + gx xs (at0 + 2 + 1) - 48) ((gx xs (at0 + 3) - 48) * 10 + gx xs (at0 + 3 + 1) - 48) (n, m, K, F, T, S, C) = (if n < 6 ∧ gx xs (at0 + 1) - 48 ≤ 7 ∧ (gx xs (at0 + 3) - 48) * 10 + gx xs (at0 + 3 + 1) - 48 ≤ 20 then some (rsC (gx xs (at0 + 1) - 48) (gx xs (at0 + 2) - 48) ((gx xs (at0 + 3) - 48) * 10 + gx xs (at0 + 3 + 1) - 48) (n, m, K, F, T, S, C)) else none) := by unfold ob; rw [if_pos e]
    rw [eo]
    refine Ex_aload_n dX7_obeys_0 rfl rfl ?_
    refine Ex_iload_n dX7_obeys_1 rfl rfl ?_
    refine Ex_iconst dX7_obeys_2 rfl ?_
    refine Ex_iadd dX7_obeys_3 rfl ?_
    refine Ex_iconst dX7_obeys_4 rfl ?_
    refine Ex_inv 2 dX7_obeys_5 rfl rfl (Or.inl rfl) rfl rfl rfl rfl w1 rfl rfl rfl (Ex_post (x8_number1 W (by omega)) ?_)
    rintro _ _ ⟨rfl, e0⟩
    obtain rfl := Eq.symm e0
    refine Ex_istore_n (L2 := [_, _, _, _, _]) dX7_obeys_8 rfl rfl rfl ?_
    refine Ex_aload_n dX7_obeys_9 rfl rfl ?_
    refine Ex_iload_n dX7_obeys_10 rfl rfl ?_
    refine Ex_iconst dX7_obeys_11 rfl ?_
    refine Ex_iadd dX7_obeys_12 rfl ?_
    refine Ex_iconst dX7_obeys_13 rfl ?_
    refine Ex_inv 2 dX7_obeys_14 rfl rfl (Or.inl rfl) rfl rfl rfl rfl w1 rfl rfl rfl (Ex_post (x8_number1 W (by omega)) ?_)
    rintro _ _ ⟨rfl, e0⟩
    obtain rfl := Eq.symm e0
    refine Ex_istore (L2 := [_, _, _, _, _]) dX7_obeys_17 rfl rfl rfl ?_
    refine Ex_aload_n dX7_obeys_19 rfl rfl ?_
    refine Ex_iload_n dX7_obeys_20 rfl rfl ?_
    refine Ex_inv 2 dX7_obeys_21 rfl rfl (Or.inl rfl) rfl rfl rfl rfl w1 rfl rfl rfl (Ex_post (x8_at W (by omega)) ?_)
    rintro _ _ ⟨rfl, e0⟩
    obtain rfl := Eq.symm e0
    skip
    · rw [e]
      refine Ex_look (off := 52) (t := 76) dX7_obeys_24 (by omega) rfl rfl rfl ?_
      refine Ex_aload_n dX7_obeys_76 rfl rfl ?_
      refine Ex_iload_n dX7_obeys_77 rfl rfl ?_
      refine Ex_iload dX7_obeys_78 rfl rfl ?_
      refine Ex_aload_n dX7_obeys_80 rfl rfl ?_
      refine Ex_iload_n dX7_obeys_81 rfl rfl ?_
      refine Ex_iconst dX7_obeys_82 rfl ?_
      refine Ex_iadd dX7_obeys_83 rfl ?_
      refine Ex_iconst dX7_obeys_84 rfl ?_
      refine Ex_inv 2 dX7_obeys_85 rfl rfl (Or.inl rfl) rfl rfl rfl rfl w1 rfl rfl rfl (Ex_post (x8_number2 W (by omega)) ?_)
      rintro _ _ ⟨rfl, e0⟩
      obtain rfl := Eq.symm e0
      refine Ex_inv 2 dX7_obeys_88 rfl rfl (Or.inl rfl) rfl rfl rfl rfl (by first | exact hr | exact w1) rfl rfl rfl (Ex_post (x7_obeysCome R hg ky w hB hy hyh (a := gx xs (at0 + 1) - 48) (b := gx xs (at0 + 2) - 48) (t := (gx xs (at0 + 3) - 48) * 10 + gx xs (at0 + 3 + 1) - 48) (by omega) (by omega) (by omega)) ?_)
      rintro r1 h1 zz
      have zb : ∃ b : Int, r1 = some (.int (i32 b)) ∧ (b = 0 ∨ b = 1) := by
        revert zz
        split
        · intro zz; exact ⟨1, zz.1, Or.inr rfl⟩
        · intro zz; exact ⟨0, zz.1, Or.inl rfl⟩
      obtain ⟨b, rfl, hb01⟩ := zb
      have zn : narrow .boolean (.int (i32 b)) = .int (i32 b) := by rcases hb01 with rfl | rfl <;> rfl
      refine Ex_iret dX7_obeys_91 rfl zn ?_
      exact zz
  · have d1 := hd 1 (by omega) (by rw [e]; decide)
    have d2 := hd 2 (by omega) (by rw [e]; decide)
    have eo : ob (gx xs at0) (gx xs (at0 + 1) - 48) (gx xs (at0 + 2) - 48) ((gx xs (at0 + 2) - 48) * 10 + gx xs (at0 + 2 + 1) - 48) ((gx xs (at0 + 3) - 48) * 10 + gx xs (at0 + 3 + 1) - 48) (n, m, K, F, T, S, C) = (if ((0 ≤ gx xs (at0 + 1) - 48 ∧ gx xs (at0 + 1) - 48 < (n : Int)) ∧ S (gx xs (at0 + 1) - 48).toNat < 7 ∧ (0 ≤ gx xs (at0 + 2) - 48 ∧ gx xs (at0 + 2) - 48 ≤ 3)) ∧ m < 999 then some (rsM (gx xs (at0 + 1) - 48).toNat (gx xs (at0 + 2) - 48) (n, m, K, F, T, S, C)) else none) := by unfold ob; rw [if_neg (by omega), if_pos e]
    rw [eo]
    refine Ex_aload_n dX7_obeys_0 rfl rfl ?_
    refine Ex_iload_n dX7_obeys_1 rfl rfl ?_
    refine Ex_iconst dX7_obeys_2 rfl ?_
    refine Ex_iadd dX7_obeys_3 rfl ?_
    refine Ex_iconst dX7_obeys_4 rfl ?_
    refine Ex_inv 2 dX7_obeys_5 rfl rfl (Or.inl rfl) rfl rfl rfl rfl w1 rfl rfl rfl (Ex_post (x8_number1 W (by omega)) ?_)
    rintro _ _ ⟨rfl, e0⟩
    obtain rfl := Eq.symm e0
    refine Ex_istore_n (L2 := [_, _, _, _, _]) dX7_obeys_8 rfl rfl rfl ?_
    refine Ex_aload_n dX7_obeys_9 rfl rfl ?_
    refine Ex_iload_n dX7_obeys_10 rfl rfl ?_
    refine Ex_iconst dX7_obeys_11 rfl ?_
    refine Ex_iadd dX7_obeys_12 rfl ?_
    refine Ex_iconst dX7_obeys_13 rfl ?_
    refine Ex_inv 2 dX7_obeys_14 rfl rfl (Or.inl rfl) rfl rfl rfl rfl w1 rfl rfl rfl (Ex_post (x8_number1 W (by omega)) ?_)
    rintro _ _ ⟨rfl, e0⟩
    obtain rfl := Eq.symm e0
    refine Ex_istore (L2 := [_, _, _, _, _]) dX7_obeys_17 rfl rfl rfl ?_
    refine Ex_aload_n dX7_obeys_19 rfl rfl ?_
    refine Ex_iload_n dX7_obeys_20 rfl rfl ?_
    refine Ex_inv 2 dX7_obeys_21 rfl rfl (Or.inl rfl) rfl rfl rfl rfl w1 rfl rfl rfl (Ex_post (x8_at W (by omega)) ?_)
    rintro _ _ ⟨rfl, e0⟩
    obtain rfl := Eq.symm e0
    skip
    · rw [e]
      refine Ex_look (off := 68) (t := 92) dX7_obeys_24 (by omega) rfl rfl rfl ?_
      refine Ex_aload_n dX7_obeys_92 rfl rfl ?_
      refine Ex_iload_n dX7_obeys_93 rfl rfl ?_
      refine Ex_iload dX7_obeys_94 rfl rfl ?_
      refine Ex_inv 2 dX7_obeys_96 rfl rfl (Or.inl rfl) rfl rfl rfl rfl (by first | exact hr | exact w1) rfl rfl rfl (Ex_post (x7_obeysMinute R hg ky w hB hy hyh (a := gx xs (at0 + 1) - 48) (b := gx xs (at0 + 2) - 48) (by omega) (by omega) hm) ?_)
      rintro r1 h1 zz
      have zb : ∃ b : Int, r1 = some (.int (i32 b)) ∧ (b = 0 ∨ b = 1) := by
        revert zz
        split
        · intro zz; exact ⟨1, zz.1, Or.inr rfl⟩
        · intro zz; exact ⟨0, zz.1, Or.inl rfl⟩
      obtain ⟨b, rfl, hb01⟩ := zb
      have zn : narrow .boolean (.int (i32 b)) = .int (i32 b) := by rcases hb01 with rfl | rfl <;> rfl
      refine Ex_iret dX7_obeys_99 rfl zn ?_
      exact zz
  · have d1 := hd 1 (by omega) (by rw [e]; decide)
    have d2 := hd 2 (by omega) (by rw [e]; decide)
    have d3 := hd 3 (by omega) (by rw [e]; decide)
    rw [show at0 + 3 = at0 + 2 + 1 by omega] at d3
    have eo : ob (gx xs at0) (gx xs (at0 + 1) - 48) (gx xs (at0 + 2) - 48) ((gx xs (at0 + 2) - 48) * 10 + gx xs (at0 + 2 + 1) - 48) ((gx xs (at0 + 3) - 48) * 10 + gx xs (at0 + 3 + 1) - 48) (n, m, K, F, T, S, C) = (if (0 ≤ gx xs (at0 + 1) - 48 ∧ gx xs (at0 + 1) - 48 < (n : Int)) ∧ (gx xs (at0 + 2) - 48) * 10 + gx xs (at0 + 2 + 1) - 48 ≤ 20 then some (rsT (gx xs (at0 + 1) - 48).toNat ((gx xs (at0 + 2) - 48) * 10 + gx xs (at0 + 2 + 1) - 48) (n, m, K, F, T, S, C)) else none) := by unfold ob; rw [if_neg (by omega), if_neg (by omega), if_neg (by omega), if_neg (by omega), if_pos e]
    rw [eo]
    refine Ex_aload_n dX7_obeys_0 rfl rfl ?_
    refine Ex_iload_n dX7_obeys_1 rfl rfl ?_
    refine Ex_iconst dX7_obeys_2 rfl ?_
    refine Ex_iadd dX7_obeys_3 rfl ?_
    refine Ex_iconst dX7_obeys_4 rfl ?_
    refine Ex_inv 2 dX7_obeys_5 rfl rfl (Or.inl rfl) rfl rfl rfl rfl w1 rfl rfl rfl (Ex_post (x8_number1 W (by omega)) ?_)
    rintro _ _ ⟨rfl, e0⟩
    obtain rfl := Eq.symm e0
    refine Ex_istore_n (L2 := [_, _, _, _, _]) dX7_obeys_8 rfl rfl rfl ?_
    refine Ex_aload_n dX7_obeys_9 rfl rfl ?_
    refine Ex_iload_n dX7_obeys_10 rfl rfl ?_
    refine Ex_iconst dX7_obeys_11 rfl ?_
    refine Ex_iadd dX7_obeys_12 rfl ?_
    refine Ex_iconst dX7_obeys_13 rfl ?_
    refine Ex_inv 2 dX7_obeys_14 rfl rfl (Or.inl rfl) rfl rfl rfl rfl w1 rfl rfl rfl (Ex_post (x8_number1 W (by omega)) ?_)
    rintro _ _ ⟨rfl, e0⟩
    obtain rfl := Eq.symm e0
    refine Ex_istore (L2 := [_, _, _, _, _]) dX7_obeys_17 rfl rfl rfl ?_
    refine Ex_aload_n dX7_obeys_19 rfl rfl ?_
    refine Ex_iload_n dX7_obeys_20 rfl rfl ?_
    refine Ex_inv 2 dX7_obeys_21 rfl rfl (Or.inl rfl) rfl rfl rfl rfl w1 rfl rfl rfl (Ex_post (x8_at W (by omega)) ?_)
    rintro _ _ ⟨rfl, e0⟩
    obtain rfl := Eq.symm e0
    skip
    · rw [e]
      refine Ex_look (off := 91) (t := 115) dX7_obeys_24 (by omega) rfl rfl rfl ?_
      refine Ex_aload_n dX7_obeys_115 rfl rfl ?_
      refine Ex_iload_n dX7_obeys_116 rfl rfl ?_
      refine Ex_aload_n dX7_obeys_117 rfl rfl ?_
      refine Ex_iload_n dX7_obeys_118 rfl rfl ?_
      refine Ex_iconst dX7_obeys_119 rfl ?_
      refine Ex_iadd dX7_obeys_120 rfl ?_
      refine Ex_iconst dX7_obeys_121 rfl ?_
      refine Ex_inv 2 dX7_obeys_122 rfl rfl (Or.inl rfl) rfl rfl rfl rfl w1 rfl rfl rfl (Ex_post (x8_number2 W (by omega)) ?_)
      rintro _ _ ⟨rfl, e0⟩
      obtain rfl := Eq.symm e0
      refine Ex_inv 2 dX7_obeys_125 rfl rfl (Or.inl rfl) rfl rfl rfl rfl (by first | exact hr | exact w1) rfl rfl rfl (Ex_post (x7_obeysTrust R hg ky w hB hy hyh (a := gx xs (at0 + 1) - 48) (b := (gx xs (at0 + 2) - 48) * 10 + gx xs (at0 + 2 + 1) - 48) (by omega) (by omega)) ?_)
      rintro r1 h1 zz
      have zb : ∃ b : Int, r1 = some (.int (i32 b)) ∧ (b = 0 ∨ b = 1) := by
        revert zz
        split
        · intro zz; exact ⟨1, zz.1, Or.inr rfl⟩
        · intro zz; exact ⟨0, zz.1, Or.inl rfl⟩
      obtain ⟨b, rfl, hb01⟩ := zb
      have zn : narrow .boolean (.int (i32 b)) = .int (i32 b) := by rcases hb01 with rfl | rfl <;> rfl
      refine Ex_iret dX7_obeys_128 rfl zn ?_
      exact zz
  · have d1 := hd 1 (by omega) (by rw [e]; decide)
    have d2 := hd 2 (by omega) (by rw [e]; decide)
    have eo : ob (gx xs at0) (gx xs (at0 + 1) - 48) (gx xs (at0 + 2) - 48) ((gx xs (at0 + 2) - 48) * 10 + gx xs (at0 + 2 + 1) - 48) ((gx xs (at0 + 3) - 48) * 10 + gx xs (at0 + 3 + 1) - 48) (n, m, K, F, T, S, C) = (if (0 ≤ gx xs (at0 + 1) - 48 ∧ gx xs (at0 + 1) - 48 < (n : Int)) ∧ (0 ≤ gx xs (at0 + 2) - 48 ∧ gx xs (at0 + 2) - 48 < (n : Int)) ∧ gx xs (at0 + 1) - 48 ≠ gx xs (at0 + 2) - 48 then some (rsX (gx xs (at0 + 1) - 48).toNat (gx xs (at0 + 2) - 48).toNat (n, m, K, F, T, S, C)) else none) := by unfold ob; rw [if_neg (by omega), if_neg (by omega), if_neg (by omega), if_pos e]
    rw [eo]
    refine Ex_aload_n dX7_obeys_0 rfl rfl ?_
    refine Ex_iload_n dX7_obeys_1 rfl rfl ?_
    refine Ex_iconst dX7_obeys_2 rfl ?_
    refine Ex_iadd dX7_obeys_3 rfl ?_
    refine Ex_iconst dX7_obeys_4 rfl ?_
    refine Ex_inv 2 dX7_obeys_5 rfl rfl (Or.inl rfl) rfl rfl rfl rfl w1 rfl rfl rfl (Ex_post (x8_number1 W (by omega)) ?_)
    rintro _ _ ⟨rfl, e0⟩
    obtain rfl := Eq.symm e0
    refine Ex_istore_n (L2 := [_, _, _, _, _]) dX7_obeys_8 rfl rfl rfl ?_
    refine Ex_aload_n dX7_obeys_9 rfl rfl ?_
    refine Ex_iload_n dX7_obeys_10 rfl rfl ?_
    refine Ex_iconst dX7_obeys_11 rfl ?_
    refine Ex_iadd dX7_obeys_12 rfl ?_
    refine Ex_iconst dX7_obeys_13 rfl ?_
    refine Ex_inv 2 dX7_obeys_14 rfl rfl (Or.inl rfl) rfl rfl rfl rfl w1 rfl rfl rfl (Ex_post (x8_number1 W (by omega)) ?_)
    rintro _ _ ⟨rfl, e0⟩
    obtain rfl := Eq.symm e0
    refine Ex_istore (L2 := [_, _, _, _, _]) dX7_obeys_17 rfl rfl rfl ?_
    refine Ex_aload_n dX7_obeys_19 rfl rfl ?_
    refine Ex_iload_n dX7_obeys_20 rfl rfl ?_
    refine Ex_inv 2 dX7_obeys_21 rfl rfl (Or.inl rfl) rfl rfl rfl rfl w1 rfl rfl rfl (Ex_post (x8_at W (by omega)) ?_)
    rintro _ _ ⟨rfl, e0⟩
    obtain rfl := Eq.symm e0
    skip
    · rw [e]
      refine Ex_look (off := 83) (t := 107) dX7_obeys_24 (by omega) rfl rfl rfl ?_
      refine Ex_aload_n dX7_obeys_107 rfl rfl ?_
      refine Ex_iload_n dX7_obeys_108 rfl rfl ?_
      refine Ex_iload dX7_obeys_109 rfl rfl ?_
      refine Ex_inv 2 dX7_obeys_111 rfl rfl (Or.inl rfl) rfl rfl rfl rfl (by first | exact hr | exact w1) rfl rfl rfl (Ex_post (x7_obeysChange R hg ky w hB hy hyh (a := gx xs (at0 + 1) - 48) (b := gx xs (at0 + 2) - 48) (by omega) (by omega)) ?_)
      rintro r1 h1 zz
      have zb : ∃ b : Int, r1 = some (.int (i32 b)) ∧ (b = 0 ∨ b = 1) := by
        revert zz
        split
        · intro zz; exact ⟨1, zz.1, Or.inr rfl⟩
        · intro zz; exact ⟨0, zz.1, Or.inl rfl⟩
      obtain ⟨b, rfl, hb01⟩ := zb
      have zn : narrow .boolean (.int (i32 b)) = .int (i32 b) := by rcases hb01 with rfl | rfl <;> rfl
      refine Ex_iret dX7_obeys_114 rfl zn ?_
      exact zz
  · have d1 := hd 1 (by omega) (by rw [e]; decide)
    have d2 := hd 2 (by omega) (by rw [e]; decide)
    have eo : ob (gx xs at0) (gx xs (at0 + 1) - 48) (gx xs (at0 + 2) - 48) ((gx xs (at0 + 2) - 48) * 10 + gx xs (at0 + 2 + 1) - 48) ((gx xs (at0 + 3) - 48) * 10 + gx xs (at0 + 3 + 1) - 48) (n, m, K, F, T, S, C) = (if (0 ≤ gx xs (at0 + 1) - 48 ∧ gx xs (at0 + 1) - 48 < (n : Int)) ∧ gx xs (at0 + 2) - 48 ≤ 7 then some (rsS (gx xs (at0 + 1) - 48).toNat (gx xs (at0 + 2) - 48) (n, m, K, F, T, S, C)) else none) := by unfold ob; rw [if_neg (by omega), if_neg (by omega), if_neg (by omega), if_neg (by omega), if_neg (by omega)]
    rw [eo]
    refine Ex_aload_n dX7_obeys_0 rfl rfl ?_
    refine Ex_iload_n dX7_obeys_1 rfl rfl ?_
    refine Ex_iconst dX7_obeys_2 rfl ?_
    refine Ex_iadd dX7_obeys_3 rfl ?_
    refine Ex_iconst dX7_obeys_4 rfl ?_
    refine Ex_inv 2 dX7_obeys_5 rfl rfl (Or.inl rfl) rfl rfl rfl rfl w1 rfl rfl rfl (Ex_post (x8_number1 W (by omega)) ?_)
    rintro _ _ ⟨rfl, e0⟩
    obtain rfl := Eq.symm e0
    refine Ex_istore_n (L2 := [_, _, _, _, _]) dX7_obeys_8 rfl rfl rfl ?_
    refine Ex_aload_n dX7_obeys_9 rfl rfl ?_
    refine Ex_iload_n dX7_obeys_10 rfl rfl ?_
    refine Ex_iconst dX7_obeys_11 rfl ?_
    refine Ex_iadd dX7_obeys_12 rfl ?_
    refine Ex_iconst dX7_obeys_13 rfl ?_
    refine Ex_inv 2 dX7_obeys_14 rfl rfl (Or.inl rfl) rfl rfl rfl rfl w1 rfl rfl rfl (Ex_post (x8_number1 W (by omega)) ?_)
    rintro _ _ ⟨rfl, e0⟩
    obtain rfl := Eq.symm e0
    refine Ex_istore (L2 := [_, _, _, _, _]) dX7_obeys_17 rfl rfl rfl ?_
    refine Ex_aload_n dX7_obeys_19 rfl rfl ?_
    refine Ex_iload_n dX7_obeys_20 rfl rfl ?_
    refine Ex_inv 2 dX7_obeys_21 rfl rfl (Or.inl rfl) rfl rfl rfl rfl w1 rfl rfl rfl (Ex_post (x8_at W (by omega)) ?_)
    rintro _ _ ⟨rfl, e0⟩
    obtain rfl := Eq.symm e0
    skip
    · refine Ex_look (off := 105) (t := 129) dX7_obeys_24 hz rfl (by show Op.lookupswitch.offset [(98, 76), (99, 52), (109, 68), (116, 91), (120, 83)] 105 (gx xs at0) = 105; rw [Op.lookupswitch.offset_cons, if_neg (by omega), Op.lookupswitch.offset_cons, if_neg (by omega), Op.lookupswitch.offset_cons, if_neg (by omega), Op.lookupswitch.offset_cons, if_neg (by omega), Op.lookupswitch.offset_cons, if_neg (by omega)]; rfl) rfl ?_
      refine Ex_aload_n dX7_obeys_129 rfl rfl ?_
      refine Ex_iload_n dX7_obeys_130 rfl rfl ?_
      refine Ex_iload dX7_obeys_131 rfl rfl ?_
      refine Ex_inv 2 dX7_obeys_133 rfl rfl (Or.inl rfl) rfl rfl rfl rfl (by first | exact hr | exact w1) rfl rfl rfl (Ex_post (x7_obeysStep R hg ky w hB hy hyh (a := gx xs (at0 + 1) - 48) (b := gx xs (at0 + 2) - 48) (by omega) (by omega)) ?_)
      rintro r1 h1 zz
      have zb : ∃ b : Int, r1 = some (.int (i32 b)) ∧ (b = 0 ∨ b = 1) := by
        revert zz
        split
        · intro zz; exact ⟨1, zz.1, Or.inr rfl⟩
        · intro zz; exact ⟨0, zz.1, Or.inl rfl⟩
      obtain ⟨b, rfl, hb01⟩ := zb
      have zn : narrow .boolean (.int (i32 b)) = .int (i32 b) := by rcases hb01 with rfl | rfl <;> rfl
      refine Ex_iret dX7_obeys_136 rfl zn ?_
      exact zz
