/-! Rail: bits and changes (by program: wip/whole/spec_c.py) -/
theorem x7_readyBits_l {E : am_E} {d : Nat} {h : Hp} {r n : Nat} {m tu : Int} {kr : Nat → Nat} {T S C : Nat → Int} {K F : Nat → Int}  (R : RailAt h r n m tu kr T S C) (hg : Rng n T S C) (kk : KOK h r (r + 9) n kr K F)  : ∀ (k : Nat) (c : Nat) (a : Int), c + k = n → 0 ≤ a ∧ a < (2 : Int) ^ c → Ex E (d + 2) mX7_readyBits 4 [.ref r, .int (i32 a), .int (i32 (c : Int))] [] h (fun r1 h1 => r1 = some (.int (i32 (a + bt (rdB K F T S) c k))) ∧ h1 = h) := by
  obtain ⟨hr, hA, hP, hG, hn6⟩ := id R
  intro k
  induction k with
  | zero =>
    intro c a hk ha
    refine Ex_iload_n dX7_readyBits_4 rfl rfl ?_
    refine Ex_aload_n dX7_readyBits_5 rfl rfl ?_
    refine Ex_getf dX7_readyBits_6 rfl (by first | exact hr | exact hA | exact hP _ (by omega)) rfl rfl rfl ?_
    refine Ex_icmp_ge (t := 40) dX7_readyBits_9 rfl rfl (by omega) (fun c9 => ?_) (fun c9 => absurd c9 (by omega))
    refine Ex_iload_n dX7_readyBits_40 rfl rfl ?_
    refine Ex_iret dX7_readyBits_41 rfl rfl ?_
    exact ⟨ri (by unfold bt; omega), rfl⟩
  | succ k ih =>
    intro c a hk ha
    have hp2 := pow2_s c
    have hp3 := pow2_pos c
    have hgc := hg c (by omega)
    by_cases hq : S c < 7 ∧ sp_needs (K c) (F c) (S c) ≤ T c
    · have hb : (rdB K F T S) c = true := decide_eq_true hq
      refine Ex_iload_n dX7_readyBits_4 rfl rfl ?_
      refine Ex_aload_n dX7_readyBits_5 rfl rfl ?_
      refine Ex_getf dX7_readyBits_6 rfl (by first | exact hr | exact hA | exact hP _ (by omega)) rfl rfl rfl ?_
      refine Ex_icmp_ge (t := 40) dX7_readyBits_9 rfl rfl (by omega) (fun c9 => absurd c9 (by omega)) (fun c9 => ?_)
      refine Ex_iload_n dX7_readyBits_12 rfl rfl ?_
      refine Ex_aload_n dX7_readyBits_13 rfl rfl ?_
      refine Ex_getf dX7_readyBits_14 rfl (by first | exact hr | exact hA | exact hP _ (by omega)) rfl rfl rfl ?_
      refine Ex_iload_n dX7_readyBits_17 rfl rfl ?_
      refine Ex_aald dX7_readyBits_18 rfl (by first | exact hr | exact hA | exact hP _ (by omega)) (by omega) (by omega) (rarr_get (by omega)) ?_
      refine Ex_inv 2 dX7_readyBits_19 rfl rfl (Or.inl rfl) rfl rfl rfl rfl (hP c (by omega)) rfl rfl rfl (Ex_post (x5_isReady (hP c (by omega)) hgc.1 hgc.2.1 (kk c (by omega)).1) ?_)
      rintro _ _ ⟨rfl, rfl⟩
      refine Ex_if_eq (t := 31) dX7_readyBits_22 rfl rfl (by omega) (fun c22 => absurd c22 (by omega)) (fun c22 => ?_)
      refine Ex_iconst dX7_readyBits_25 rfl ?_
      refine Ex_iload_n dX7_readyBits_26 rfl rfl ?_
      refine Ex_ishl (v := ((2 : Int) ^ c)) dX7_readyBits_27 rfl (shl_bit c (by omega)) ?_
      refine Ex_goto (t := 32) dX7_readyBits_28 rfl ?_
      refine Ex_ior (v := (a + (2 : Int) ^ c)) dX7_readyBits_32 rfl (or_bitI (by omega) ha) ?_
      refine Ex_istore_n (L2 := [_, _, _]) dX7_readyBits_33 rfl rfl rfl ?_
      refine Ex_iinc (L2 := [_, _, _]) dX7_readyBits_34 rfl rfl rfl ?_
      refine Ex_goto (t := 4) dX7_readyBits_37 rfl ?_
      refine Ex_post (ih (c + 1) _ (by omega) ⟨by omega, by omega⟩) ?_
      rintro _ _ ⟨rfl, rfl⟩
      exact ⟨ri (by rw [show bt (rdB K F T S) c (k + 1) = (if (rdB K F T S) c then 2 ^ c else 0) + bt (rdB K F T S) (c + 1) k from rfl, hb]; rw [if_pos rfl]; omega), rfl⟩
    · have hb : (rdB K F T S) c = false := decide_eq_false hq
      refine Ex_iload_n dX7_readyBits_4 rfl rfl ?_
      refine Ex_aload_n dX7_readyBits_5 rfl rfl ?_
      refine Ex_getf dX7_readyBits_6 rfl (by first | exact hr | exact hA | exact hP _ (by omega)) rfl rfl rfl ?_
      refine Ex_icmp_ge (t := 40) dX7_readyBits_9 rfl rfl (by omega) (fun c9 => absurd c9 (by omega)) (fun c9 => ?_)
      refine Ex_iload_n dX7_readyBits_12 rfl rfl ?_
      refine Ex_aload_n dX7_readyBits_13 rfl rfl ?_
      refine Ex_getf dX7_readyBits_14 rfl (by first | exact hr | exact hA | exact hP _ (by omega)) rfl rfl rfl ?_
      refine Ex_iload_n dX7_readyBits_17 rfl rfl ?_
      refine Ex_aald dX7_readyBits_18 rfl (by first | exact hr | exact hA | exact hP _ (by omega)) (by omega) (by omega) (rarr_get (by omega)) ?_
      refine Ex_inv 2 dX7_readyBits_19 rfl rfl (Or.inl rfl) rfl rfl rfl rfl (hP c (by omega)) rfl rfl rfl (Ex_post (x5_isReady (hP c (by omega)) hgc.1 hgc.2.1 (kk c (by omega)).1) ?_)
      rintro _ _ ⟨rfl, rfl⟩
      refine Ex_if_eq (t := 31) dX7_readyBits_22 rfl rfl (by omega) (fun c22 => ?_) (fun c22 => absurd c22 (by omega))
      refine Ex_iconst dX7_readyBits_31 rfl ?_
      refine Ex_ior (v := a) dX7_readyBits_32 rfl (i32_or0 _) ?_
      refine Ex_istore_n (L2 := [_, _, _]) dX7_readyBits_33 rfl rfl rfl ?_
      refine Ex_iinc (L2 := [_, _, _]) dX7_readyBits_34 rfl rfl rfl ?_
      refine Ex_goto (t := 4) dX7_readyBits_37 rfl ?_
      refine Ex_post (ih (c + 1) _ (by omega) ⟨by omega, by omega⟩) ?_
      rintro _ _ ⟨rfl, rfl⟩
      exact ⟨ri (by rw [show bt (rdB K F T S) c (k + 1) = (if (rdB K F T S) c then 2 ^ c else 0) + bt (rdB K F T S) (c + 1) k from rfl, hb]; rw [if_neg (by decide)]; omega), rfl⟩

theorem x7_readyBits {E : am_E} {d : Nat} {h : Hp} {r n : Nat} {m tu : Int} {kr : Nat → Nat} {T S C : Nat → Int} {K F : Nat → Int}  (R : RailAt h r n m tu kr T S C) (hg : Rng n T S C) (kk : KOK h r (r + 9) n kr K F)  : Ex E (d + 2) mX7_readyBits 0 [.ref r, .retAddr 0, .retAddr 0] [] h (fun r1 h1 => r1 = some (.int (i32 (bt (rdB K F T S) 0 n))) ∧ h1 = h) := by
  refine Ex_iconst dX7_readyBits_0 rfl ?_
  refine Ex_istore_n (L2 := [_, _, _]) dX7_readyBits_1 rfl rfl rfl ?_
  refine Ex_iconst dX7_readyBits_2 rfl ?_
  refine Ex_istore_n (L2 := [_, _, _]) dX7_readyBits_3 rfl rfl rfl ?_
  refine Ex_post (x7_readyBits_l R hg kk n 0 0 (by omega) (by omega)) ?_
  rintro _ _ ⟨rfl, rfl⟩
  exact ⟨ri (by omega), rfl⟩
theorem x7_swimBits_l {E : am_E} {d : Nat} {h : Hp} {r n : Nat} {m tu : Int} {kr : Nat → Nat} {T S C : Nat → Int}  (R : RailAt h r n m tu kr T S C) (hg : Rng n T S C)  : ∀ (k : Nat) (c : Nat) (a : Int), c + k = n → 0 ≤ a ∧ a < (2 : Int) ^ c → Ex E (d + 1) mX7_swimBits 4 [.ref r, .int (i32 a), .int (i32 (c : Int))] [] h (fun r1 h1 => r1 = some (.int (i32 (a + bt (swB S) c k))) ∧ h1 = h) := by
  obtain ⟨hr, hA, hP, hG, hn6⟩ := id R
  intro k
  induction k with
  | zero =>
    intro c a hk ha
    refine Ex_iload_n dX7_swimBits_4 rfl rfl ?_
    refine Ex_aload_n dX7_swimBits_5 rfl rfl ?_
    refine Ex_getf dX7_swimBits_6 rfl (by first | exact hr | exact hA | exact hP _ (by omega)) rfl rfl rfl ?_
    refine Ex_icmp_ge (t := 40) dX7_swimBits_9 rfl rfl (by omega) (fun c9 => ?_) (fun c9 => absurd c9 (by omega))
    refine Ex_iload_n dX7_swimBits_40 rfl rfl ?_
    refine Ex_iret dX7_swimBits_41 rfl rfl ?_
    exact ⟨ri (by unfold bt; omega), rfl⟩
  | succ k ih =>
    intro c a hk ha
    have hp2 := pow2_s c
    have hp3 := pow2_pos c
    have hgc := hg c (by omega)
    by_cases hq : S c = 7
    · have hb : (swB S) c = true := decide_eq_true hq
      refine Ex_iload_n dX7_swimBits_4 rfl rfl ?_
      refine Ex_aload_n dX7_swimBits_5 rfl rfl ?_
      refine Ex_getf dX7_swimBits_6 rfl (by first | exact hr | exact hA | exact hP _ (by omega)) rfl rfl rfl ?_
      refine Ex_icmp_ge (t := 40) dX7_swimBits_9 rfl rfl (by omega) (fun c9 => absurd c9 (by omega)) (fun c9 => ?_)
      refine Ex_iload_n dX7_swimBits_12 rfl rfl ?_
      refine Ex_aload_n dX7_swimBits_13 rfl rfl ?_
      refine Ex_getf dX7_swimBits_14 rfl (by first | exact hr | exact hA | exact hP _ (by omega)) rfl rfl rfl ?_
      refine Ex_iload_n dX7_swimBits_17 rfl rfl ?_
      refine Ex_aald dX7_swimBits_18 rfl (by first | exact hr | exact hA | exact hP _ (by omega)) (by omega) (by omega) (rarr_get (by omega)) ?_
      refine Ex_inv 2 dX7_swimBits_19 rfl rfl (Or.inl rfl) rfl rfl rfl rfl (hP c (by omega)) rfl rfl rfl (Ex_post (x5_swims (hP c (by omega)) hgc.2.1) ?_)
      rintro _ _ ⟨rfl, rfl⟩
      refine Ex_if_eq (t := 31) dX7_swimBits_22 rfl rfl (by omega) (fun c22 => absurd c22 (by omega)) (fun c22 => ?_)
      refine Ex_iconst dX7_swimBits_25 rfl ?_
      refine Ex_iload_n dX7_swimBits_26 rfl rfl ?_
      refine Ex_ishl (v := ((2 : Int) ^ c)) dX7_swimBits_27 rfl (shl_bit c (by omega)) ?_
      refine Ex_goto (t := 32) dX7_swimBits_28 rfl ?_
      refine Ex_ior (v := (a + (2 : Int) ^ c)) dX7_swimBits_32 rfl (or_bitI (by omega) ha) ?_
      refine Ex_istore_n (L2 := [_, _, _]) dX7_swimBits_33 rfl rfl rfl ?_
      refine Ex_iinc (L2 := [_, _, _]) dX7_swimBits_34 rfl rfl rfl ?_
      refine Ex_goto (t := 4) dX7_swimBits_37 rfl ?_
      refine Ex_post (ih (c + 1) _ (by omega) ⟨by omega, by omega⟩) ?_
      rintro _ _ ⟨rfl, rfl⟩
      exact ⟨ri (by rw [show bt (swB S) c (k + 1) = (if (swB S) c then 2 ^ c else 0) + bt (swB S) (c + 1) k from rfl, hb]; rw [if_pos rfl]; omega), rfl⟩
    · have hb : (swB S) c = false := decide_eq_false hq
      refine Ex_iload_n dX7_swimBits_4 rfl rfl ?_
      refine Ex_aload_n dX7_swimBits_5 rfl rfl ?_
      refine Ex_getf dX7_swimBits_6 rfl (by first | exact hr | exact hA | exact hP _ (by omega)) rfl rfl rfl ?_
      refine Ex_icmp_ge (t := 40) dX7_swimBits_9 rfl rfl (by omega) (fun c9 => absurd c9 (by omega)) (fun c9 => ?_)
      refine Ex_iload_n dX7_swimBits_12 rfl rfl ?_
      refine Ex_aload_n dX7_swimBits_13 rfl rfl ?_
      refine Ex_getf dX7_swimBits_14 rfl (by first | exact hr | exact hA | exact hP _ (by omega)) rfl rfl rfl ?_
      refine Ex_iload_n dX7_swimBits_17 rfl rfl ?_
      refine Ex_aald dX7_swimBits_18 rfl (by first | exact hr | exact hA | exact hP _ (by omega)) (by omega) (by omega) (rarr_get (by omega)) ?_
      refine Ex_inv 2 dX7_swimBits_19 rfl rfl (Or.inl rfl) rfl rfl rfl rfl (hP c (by omega)) rfl rfl rfl (Ex_post (x5_swims (hP c (by omega)) hgc.2.1) ?_)
      rintro _ _ ⟨rfl, rfl⟩
      refine Ex_if_eq (t := 31) dX7_swimBits_22 rfl rfl (by omega) (fun c22 => ?_) (fun c22 => absurd c22 (by omega))
      refine Ex_iconst dX7_swimBits_31 rfl ?_
      refine Ex_ior (v := a) dX7_swimBits_32 rfl (i32_or0 _) ?_
      refine Ex_istore_n (L2 := [_, _, _]) dX7_swimBits_33 rfl rfl rfl ?_
      refine Ex_iinc (L2 := [_, _, _]) dX7_swimBits_34 rfl rfl rfl ?_
      refine Ex_goto (t := 4) dX7_swimBits_37 rfl ?_
      refine Ex_post (ih (c + 1) _ (by omega) ⟨by omega, by omega⟩) ?_
      rintro _ _ ⟨rfl, rfl⟩
      exact ⟨ri (by rw [show bt (swB S) c (k + 1) = (if (swB S) c then 2 ^ c else 0) + bt (swB S) (c + 1) k from rfl, hb]; rw [if_neg (by decide)]; omega), rfl⟩

theorem x7_swimBits {E : am_E} {d : Nat} {h : Hp} {r n : Nat} {m tu : Int} {kr : Nat → Nat} {T S C : Nat → Int}  (R : RailAt h r n m tu kr T S C) (hg : Rng n T S C)  : Ex E (d + 1) mX7_swimBits 0 [.ref r, .retAddr 0, .retAddr 0] [] h (fun r1 h1 => r1 = some (.int (i32 (bt (swB S) 0 n))) ∧ h1 = h) := by
  refine Ex_iconst dX7_swimBits_0 rfl ?_
  refine Ex_istore_n (L2 := [_, _, _]) dX7_swimBits_1 rfl rfl rfl ?_
  refine Ex_iconst dX7_swimBits_2 rfl ?_
  refine Ex_istore_n (L2 := [_, _, _]) dX7_swimBits_3 rfl rfl rfl ?_
  refine Ex_post (x7_swimBits_l R hg n 0 0 (by omega) (by omega)) ?_
  rintro _ _ ⟨rfl, rfl⟩
  exact ⟨ri (by omega), rfl⟩
theorem x7_anyCanStep_l {E : am_E} {d : Nat} {h : Hp} {r n : Nat} {m tu : Int} {kr : Nat → Nat} {T S C : Nat → Int} {K F : Nat → Int}  (R : RailAt h r n m tu kr T S C) (hg : Rng n T S C) (kk : KOK h r (r + 9) n kr K F)  : ∀ (k : Nat) (c : Nat), c + k = n → Ex E (d + 3) mX7_anyCanStep 2 [.ref r, .int (i32 (c : Int))] [] h (fun r1 h1 => r1 = some (.int (i32 (if anyB (fun j => rdB K F T S j || fgB K F T S j) c k then 1 else 0))) ∧ h1 = h) := by
  obtain ⟨hr, hA, hP, hG, hn6⟩ := id R
  intro k
  induction k with
  | zero =>
    intro c hk
    refine Ex_iload_n dX7_anyCanStep_2 rfl rfl ?_
    refine Ex_aload_n dX7_anyCanStep_3 rfl rfl ?_
    refine Ex_getf dX7_anyCanStep_4 rfl (by first | exact hr | exact hA | exact hP _ (by omega)) rfl rfl rfl ?_
    refine Ex_icmp_ge (t := 42) dX7_anyCanStep_7 rfl rfl (by omega) (fun c7 => ?_) (fun c7 => absurd c7 (by omega))
    refine Ex_iconst dX7_anyCanStep_42 rfl ?_
    refine Ex_iret dX7_anyCanStep_43 rfl rfl ?_
    exact ⟨rfl, rfl⟩
  | succ k ih =>
    intro c hk
    have hgc := hg c (by omega)
    by_cases hq : S c < 7 ∧ sp_needs (K c) (F c) (S c) ≤ T c
    · have hb : rdB K F T S c = true := decide_eq_true hq
      refine Ex_iload_n dX7_anyCanStep_2 rfl rfl ?_
      refine Ex_aload_n dX7_anyCanStep_3 rfl rfl ?_
      refine Ex_getf dX7_anyCanStep_4 rfl (by first | exact hr | exact hA | exact hP _ (by omega)) rfl rfl rfl ?_
      refine Ex_icmp_ge (t := 42) dX7_anyCanStep_7 rfl rfl (by omega) (fun c7 => absurd c7 (by omega)) (fun c7 => ?_)
      refine Ex_aload_n dX7_anyCanStep_10 rfl rfl ?_
      refine Ex_getf dX7_anyCanStep_11 rfl (by first | exact hr | exact hA | exact hP _ (by omega)) rfl rfl rfl ?_
      refine Ex_iload_n dX7_anyCanStep_14 rfl rfl ?_
      refine Ex_aald dX7_anyCanStep_15 rfl (by first | exact hr | exact hA | exact hP _ (by omega)) (by omega) (by omega) (rarr_get (by omega)) ?_
      refine Ex_inv 2 dX7_anyCanStep_16 rfl rfl (Or.inl rfl) rfl rfl rfl rfl (hP c (by omega)) rfl rfl rfl (Ex_post (x5_isReady (hP c (by omega)) hgc.1 hgc.2.1 (kk c (by omega)).1) ?_)
      rintro _ _ ⟨rfl, rfl⟩
      refine Ex_if_ne (t := 34) dX7_anyCanStep_19 rfl rfl (by omega) (fun c19 => ?_) (fun c19 => absurd c19 (by omega))
      refine Ex_iconst dX7_anyCanStep_34 rfl ?_
      refine Ex_iret dX7_anyCanStep_35 rfl rfl ?_
      exact ⟨ri (by rw [show anyB (fun j => rdB K F T S j || fgB K F T S j) c (k + 1) = ((fun j => rdB K F T S j || fgB K F T S j) c || anyB (fun j => rdB K F T S j || fgB K F T S j) (c + 1) k) from rfl]; simp [hb]), rfl⟩
    · have hb : rdB K F T S c = false := decide_eq_false hq
      refine Ex_iload_n dX7_anyCanStep_2 rfl rfl ?_
      refine Ex_aload_n dX7_anyCanStep_3 rfl rfl ?_
      refine Ex_getf dX7_anyCanStep_4 rfl (by first | exact hr | exact hA | exact hP _ (by omega)) rfl rfl rfl ?_
      refine Ex_icmp_ge (t := 42) dX7_anyCanStep_7 rfl rfl (by omega) (fun c7 => absurd c7 (by omega)) (fun c7 => ?_)
      refine Ex_aload_n dX7_anyCanStep_10 rfl rfl ?_
      refine Ex_getf dX7_anyCanStep_11 rfl (by first | exact hr | exact hA | exact hP _ (by omega)) rfl rfl rfl ?_
      refine Ex_iload_n dX7_anyCanStep_14 rfl rfl ?_
      refine Ex_aald dX7_anyCanStep_15 rfl (by first | exact hr | exact hA | exact hP _ (by omega)) (by omega) (by omega) (rarr_get (by omega)) ?_
      refine Ex_inv 2 dX7_anyCanStep_16 rfl rfl (Or.inl rfl) rfl rfl rfl rfl (hP c (by omega)) rfl rfl rfl (Ex_post (x5_isReady (hP c (by omega)) hgc.1 hgc.2.1 (kk c (by omega)).1) ?_)
      rintro _ _ ⟨rfl, rfl⟩
      refine Ex_if_ne (t := 34) dX7_anyCanStep_19 rfl rfl (by omega) (fun c19 => absurd c19 (by omega)) (fun c19 => ?_)
      refine Ex_aload_n dX7_anyCanStep_22 rfl rfl ?_
      refine Ex_getf dX7_anyCanStep_23 rfl (by first | exact hr | exact hA | exact hP _ (by omega)) rfl rfl rfl ?_
      refine Ex_iload_n dX7_anyCanStep_26 rfl rfl ?_
      refine Ex_aald dX7_anyCanStep_27 rfl (by first | exact hr | exact hA | exact hP _ (by omega)) (by omega) (by omega) (rarr_get (by omega)) ?_
      refine Ex_inv 2 dX7_anyCanStep_28 rfl rfl (Or.inl rfl) rfl rfl rfl rfl (hP c (by omega)) rfl rfl rfl (Ex_post (x5_stepsByFinger (hP c (by omega)) hgc.1 hgc.2.1 (kk c (by omega)).1) ?_)
      rintro _ _ ⟨rfl, rfl⟩
      refine Ex_if_eq (t := 36) dX7_anyCanStep_31 rfl rfl (by omega) (fun c31 => ?_) (fun c31 => ?_)
      · refine Ex_iinc (L2 := [_, _]) dX7_anyCanStep_36 rfl rfl rfl ?_
        refine Ex_goto (t := 2) dX7_anyCanStep_39 rfl ?_
        have hb2 : fgB K F T S c = false := decide_eq_false (by omega)
        refine Ex_post (ih (c + 1) (by omega)) ?_
        rintro _ _ ⟨rfl, rfl⟩
        exact ⟨ri (by rw [show anyB (fun j => rdB K F T S j || fgB K F T S j) c (k + 1) = ((fun j => rdB K F T S j || fgB K F T S j) c || anyB (fun j => rdB K F T S j || fgB K F T S j) (c + 1) k) from rfl]; simp [hb, hb2]), rfl⟩
      · refine Ex_iconst dX7_anyCanStep_34 rfl ?_
        refine Ex_iret dX7_anyCanStep_35 rfl rfl ?_
        have hb2 : fgB K F T S c = true := decide_eq_true (by omega)
        exact ⟨ri (by rw [show anyB (fun j => rdB K F T S j || fgB K F T S j) c (k + 1) = ((fun j => rdB K F T S j || fgB K F T S j) c || anyB (fun j => rdB K F T S j || fgB K F T S j) (c + 1) k) from rfl]; simp [hb, hb2]), rfl⟩

theorem x7_anyCanStep {E : am_E} {d : Nat} {h : Hp} {r n : Nat} {m tu : Int} {kr : Nat → Nat} {T S C : Nat → Int} {K F : Nat → Int}  (R : RailAt h r n m tu kr T S C) (hg : Rng n T S C) (kk : KOK h r (r + 9) n kr K F)  : Ex E (d + 3) mX7_anyCanStep 0 [.ref r, .retAddr 0] [] h (fun r1 h1 => r1 = some (.int (i32 (if anyB (fun j => rdB K F T S j || fgB K F T S j) 0 n then 1 else 0))) ∧ h1 = h) := by
  refine Ex_iconst dX7_anyCanStep_0 rfl ?_
  refine Ex_istore_n (L2 := [_, _]) dX7_anyCanStep_1 rfl rfl rfl ?_
  exact x7_anyCanStep_l R hg kk n 0 (by omega)
theorem x7_holdsOf_l {E : am_E} {d : Nat} {h : Hp} {r n : Nat} {m tu : Int} {kr : Nat → Nat} {T S C : Nat → Int} {K F : Nat → Int} {b : Nat}  (R : RailAt h r n m tu kr T S C) (kk : KOK h r (r + 9) n kr K F) (hb0 : b < 64)  : ∀ (k : Nat) (c : Nat) (a : Int), c + k = n → 0 ≤ a ∧ a ≤ 6 * c → Ex E d mX7_holdsOf 4 [.ref r, .int (i32 (b : Int)), .int (i32 a), .int (i32 (c : Int))] [] h (fun r1 h1 => r1 = some (.int (i32 (a + sm (fun j => if b.testBit j then sp_holds (K j) (F j) else 0) c k))) ∧ h1 = h) := by
  obtain ⟨hr, hA, hP, hG, hn6⟩ := id R
  intro k
  induction k with
  | zero =>
    intro c a hk ha
    refine Ex_iload_n dX7_holdsOf_4 rfl rfl ?_
    refine Ex_aload_n dX7_holdsOf_5 rfl rfl ?_
    refine Ex_getf dX7_holdsOf_6 rfl (by first | exact hr | exact hA | exact hP _ (by omega) | exact (kk _ (by omega)).1.1) rfl rfl rfl ?_
    refine Ex_icmp_ge (t := 45) dX7_holdsOf_9 rfl rfl (by omega) (fun c9 => ?_) (fun c9 => absurd c9 (by omega))
    refine Ex_iload_n dX7_holdsOf_45 rfl rfl ?_
    refine Ex_iret dX7_holdsOf_46 rfl rfl ?_
    exact ⟨ri (by unfold sm; omega), rfl⟩
  | succ k ih =>
    intro c a hk ha
    have hp3 := pow2_pos c
    have hp4 : (2 : Int) ^ c ≤ 64 := by rcases (show c = 0 ∨ c = 1 ∨ c = 2 ∨ c = 3 ∨ c = 4 ∨ c = 5 by omega) with rfl | rfl | rfl | rfl | rfl | rfl <;> decide
    have hh := sp_holds_r (k := K c) (kk c (by omega)).1.2.2.2
    cases hb : b.testBit c
    · refine Ex_iload_n dX7_holdsOf_4 rfl rfl ?_
      refine Ex_aload_n dX7_holdsOf_5 rfl rfl ?_
      refine Ex_getf dX7_holdsOf_6 rfl (by first | exact hr | exact hA | exact hP _ (by omega) | exact (kk _ (by omega)).1.1) rfl rfl rfl ?_
      refine Ex_icmp_ge (t := 45) dX7_holdsOf_9 rfl rfl (by omega) (fun c9 => absurd c9 (by omega)) (fun c9 => ?_)
      refine Ex_iload_n dX7_holdsOf_12 rfl rfl ?_
      refine Ex_iload_n dX7_holdsOf_13 rfl rfl ?_
      refine Ex_iconst dX7_holdsOf_14 rfl ?_
      refine Ex_iload_n dX7_holdsOf_15 rfl rfl ?_
      refine Ex_ishl (v := ((2 : Int) ^ c)) dX7_holdsOf_16 rfl (shl_bit c (by omega)) ?_
      refine Ex_iand (v := (if b.testBit c then (2 : Int) ^ c else 0)) dX7_holdsOf_17 rfl (and_bit c (by omega) b (by omega)) ?_
      refine Ex_if_eq (t := 36) dX7_holdsOf_18 rfl rfl (by rw [hb]; simp) (fun c18 => ?_) (fun c18 => absurd c18 (by rw [hb]; simp))
      refine Ex_iconst dX7_holdsOf_36 rfl ?_
      refine Ex_iadd dX7_holdsOf_37 rfl ?_
      refine Ex_istore_n (L2 := [_, _, _, _]) dX7_holdsOf_38 rfl rfl rfl ?_
      refine Ex_iinc (L2 := [_, _, _, _]) dX7_holdsOf_39 rfl rfl rfl ?_
      refine Ex_goto (t := 4) dX7_holdsOf_42 rfl ?_
      refine Ex_post (ih (c + 1) _ (by omega) ⟨by omega, by omega⟩) ?_
      rintro _ _ ⟨rfl, rfl⟩
      exact ⟨ri (by rw [show sm (fun j => if b.testBit j then sp_holds (K j) (F j) else 0) c (k + 1) = (if b.testBit c then sp_holds (K c) (F c) else 0) + sm (fun j => if b.testBit j then sp_holds (K j) (F j) else 0) (c + 1) k from rfl, hb]; rw [if_neg (by decide)]; omega), rfl⟩
    · refine Ex_iload_n dX7_holdsOf_4 rfl rfl ?_
      refine Ex_aload_n dX7_holdsOf_5 rfl rfl ?_
      refine Ex_getf dX7_holdsOf_6 rfl (by first | exact hr | exact hA | exact hP _ (by omega) | exact (kk _ (by omega)).1.1) rfl rfl rfl ?_
      refine Ex_icmp_ge (t := 45) dX7_holdsOf_9 rfl rfl (by omega) (fun c9 => absurd c9 (by omega)) (fun c9 => ?_)
      refine Ex_iload_n dX7_holdsOf_12 rfl rfl ?_
      refine Ex_iload_n dX7_holdsOf_13 rfl rfl ?_
      refine Ex_iconst dX7_holdsOf_14 rfl ?_
      refine Ex_iload_n dX7_holdsOf_15 rfl rfl ?_
      refine Ex_ishl (v := ((2 : Int) ^ c)) dX7_holdsOf_16 rfl (shl_bit c (by omega)) ?_
      refine Ex_iand (v := (if b.testBit c then (2 : Int) ^ c else 0)) dX7_holdsOf_17 rfl (and_bit c (by omega) b (by omega)) ?_
      refine Ex_if_eq (t := 36) dX7_holdsOf_18 rfl rfl (by rw [hb, if_pos rfl]; omega) (fun c18 => absurd c18 (by rw [hb, if_pos rfl]; omega)) (fun c18 => ?_)
      refine Ex_aload_n dX7_holdsOf_21 rfl rfl ?_
      refine Ex_getf dX7_holdsOf_22 rfl (by first | exact hr | exact hA | exact hP _ (by omega) | exact (kk _ (by omega)).1.1) rfl rfl rfl ?_
      refine Ex_iload_n dX7_holdsOf_25 rfl rfl ?_
      refine Ex_aald dX7_holdsOf_26 rfl (by first | exact hr | exact hA | exact hP _ (by omega) | exact (kk _ (by omega)).1.1) (by omega) (by omega) (rarr_get (by omega)) ?_
      refine Ex_getf dX7_holdsOf_27 rfl (by first | exact hr | exact hA | exact hP _ (by omega) | exact (kk _ (by omega)).1.1) rfl rfl rfl ?_
      refine Ex_getf dX7_holdsOf_30 rfl (by first | exact hr | exact hA | exact hP _ (by omega) | exact (kk _ (by omega)).1.1) rfl (ktag_in _) rfl ?_
      refine Ex_goto (t := 37) dX7_holdsOf_33 rfl ?_
      refine Ex_iadd dX7_holdsOf_37 rfl ?_
      refine Ex_istore_n (L2 := [_, _, _, _]) dX7_holdsOf_38 rfl rfl rfl ?_
      refine Ex_iinc (L2 := [_, _, _, _]) dX7_holdsOf_39 rfl rfl rfl ?_
      refine Ex_goto (t := 4) dX7_holdsOf_42 rfl ?_
      refine Ex_post (ih (c + 1) _ (by omega) ⟨by omega, by omega⟩) ?_
      rintro _ _ ⟨rfl, rfl⟩
      exact ⟨ri (by rw [show sm (fun j => if b.testBit j then sp_holds (K j) (F j) else 0) c (k + 1) = (if b.testBit c then sp_holds (K c) (F c) else 0) + sm (fun j => if b.testBit j then sp_holds (K j) (F j) else 0) (c + 1) k from rfl, hb]; rw [if_pos rfl]; omega), rfl⟩

theorem x7_holdsOf {E : am_E} {d : Nat} {h : Hp} {r n : Nat} {m tu : Int} {kr : Nat → Nat} {T S C : Nat → Int} {K F : Nat → Int} {b : Nat}  (R : RailAt h r n m tu kr T S C) (kk : KOK h r (r + 9) n kr K F) (hb0 : b < 64)  : Ex E d mX7_holdsOf 0 [.ref r, .int (i32 (b : Int)), .retAddr 0, .retAddr 0] [] h (fun r1 h1 => r1 = some (.int (i32 (sm (fun j => if b.testBit j then sp_holds (K j) (F j) else 0) 0 n))) ∧ h1 = h) := by
  refine Ex_iconst dX7_holdsOf_0 rfl ?_
  refine Ex_istore_n (L2 := [_, _, _, _]) dX7_holdsOf_1 rfl rfl rfl ?_
  refine Ex_iconst dX7_holdsOf_2 rfl ?_
  refine Ex_istore_n (L2 := [_, _, _, _]) dX7_holdsOf_3 rfl rfl rfl ?_
  refine Ex_post (x7_holdsOf_l R kk hb0 n 0 0 (by omega) (by omega)) ?_
  rintro _ _ ⟨rfl, rfl⟩
  exact ⟨ri (by omega), rfl⟩
theorem x7_shownTo_l {E : am_E} {d : Nat} {h : Hp} {r n : Nat} {m tu : Int} {kr : Nat → Nat} {T S C : Nat → Int} {c : Nat}  (R : RailAt h r n m tu kr T S C) (hg : Rng n T S C) (hc : c < n)  : ∀ (k : Nat) (o : Nat) (a : Int), o + k = n → a = shg S c o → Ex E (d + 1) mX7_shownTo 4 [.ref r, .int (i32 (c : Int)), .int (i32 a), .int (i32 (o : Int))] [] h (fun r1 h1 => r1 = some (.int (i32 (shg S c n))) ∧ h1 = h) := by
  obtain ⟨hr, hA, hP, hG, hn6⟩ := id R
  intro k
  induction k with
  | zero =>
    intro o a hk ha
    refine Ex_iload_n dX7_shownTo_4 rfl rfl ?_
    refine Ex_aload_n dX7_shownTo_5 rfl rfl ?_
    refine Ex_getf dX7_shownTo_6 rfl (by first | exact hr | exact hA | exact hP _ (by omega)) rfl rfl rfl ?_
    refine Ex_icmp_ge (t := 59) dX7_shownTo_9 rfl rfl (by omega) (fun c9 => ?_) (fun c9 => absurd c9 (by omega))
    refine Ex_iload_n dX7_shownTo_59 rfl rfl ?_
    refine Ex_iret dX7_shownTo_60 rfl rfl ?_
    exact ⟨ri (by rw [ha, show o = n by omega]), rfl⟩
  | succ k ih =>
    intro o a hk ha
    have hgo := hg o (by omega)
    have hgc := hg c hc
    have hsh := shg_r S c o
    by_cases hq : S c < S o
    · refine Ex_iload_n dX7_shownTo_4 rfl rfl ?_
      refine Ex_aload_n dX7_shownTo_5 rfl rfl ?_
      refine Ex_getf dX7_shownTo_6 rfl (by first | exact hr | exact hA | exact hP _ (by omega)) rfl rfl rfl ?_
      refine Ex_icmp_ge (t := 59) dX7_shownTo_9 rfl rfl (by omega) (fun c9 => absurd c9 (by omega)) (fun c9 => ?_)
      refine Ex_aload_n dX7_shownTo_12 rfl rfl ?_
      refine Ex_getf dX7_shownTo_13 rfl (by first | exact hr | exact hA | exact hP _ (by omega)) rfl rfl rfl ?_
      refine Ex_iload_n dX7_shownTo_16 rfl rfl ?_
      refine Ex_aald dX7_shownTo_17 rfl (by first | exact hr | exact hA | exact hP _ (by omega)) (by omega) (by omega) (rarr_get (by omega)) ?_
      refine Ex_getf dX7_shownTo_18 rfl (by first | exact hr | exact hA | exact hP _ (by omega)) rfl rfl rfl ?_
      refine Ex_aload_n dX7_shownTo_21 rfl rfl ?_
      refine Ex_getf dX7_shownTo_22 rfl (by first | exact hr | exact hA | exact hP _ (by omega)) rfl rfl rfl ?_
      refine Ex_iload_n dX7_shownTo_25 rfl rfl ?_
      refine Ex_aald dX7_shownTo_26 rfl (by first | exact hr | exact hA | exact hP _ (by omega)) (by omega) (by omega) (rarr_get (by omega)) ?_
      refine Ex_getf dX7_shownTo_27 rfl (by first | exact hr | exact hA | exact hP _ (by omega)) rfl rfl rfl ?_
      refine Ex_icmp_le (t := 53) dX7_shownTo_30 rfl rfl (by omega) (fun c30 => absurd c30 (by omega)) (fun c30 => ?_)
      refine Ex_iload_n dX7_shownTo_33 rfl rfl ?_
      refine Ex_iload_n dX7_shownTo_34 rfl rfl ?_
      refine Ex_iload_n dX7_shownTo_35 rfl rfl ?_
      refine Ex_isub dX7_shownTo_36 rfl ?_
      refine Ex_abs dX7_shownTo_37 rfl rfl rfl (by omega) ?_
      refine Ex_iconst dX7_shownTo_40 rfl ?_
      refine Ex_icmp_ne (t := 48) dX7_shownTo_41 rfl rfl (by omega) (fun c41 => ?_) (fun c41 => ?_)
      · refine Ex_iconst dX7_shownTo_48 rfl ?_
        refine Ex_max dX7_shownTo_49 rfl rfl rfl (by omega) ?_
        refine Ex_istore_n (L2 := [_, _, _, _]) dX7_shownTo_52 rfl rfl rfl ?_
        refine Ex_iinc (L2 := [_, _, _, _]) dX7_shownTo_53 rfl rfl rfl ?_
        refine Ex_goto (t := 4) dX7_shownTo_56 rfl ?_
        refine Ex_post (ih (o + 1) _ (by omega) (by simp only [shg]; rw [if_pos hq, ha]; congr 1; (try first | rw [if_pos (by omega)] | rw [if_neg (by omega)]))) ?_
        rintro _ _ ⟨rfl, rfl⟩
        exact ⟨rfl, rfl⟩
      · refine Ex_iconst dX7_shownTo_44 rfl ?_
        refine Ex_goto (t := 49) dX7_shownTo_45 rfl ?_
        refine Ex_max dX7_shownTo_49 rfl rfl rfl (by omega) ?_
        refine Ex_istore_n (L2 := [_, _, _, _]) dX7_shownTo_52 rfl rfl rfl ?_
        refine Ex_iinc (L2 := [_, _, _, _]) dX7_shownTo_53 rfl rfl rfl ?_
        refine Ex_goto (t := 4) dX7_shownTo_56 rfl ?_
        refine Ex_post (ih (o + 1) _ (by omega) (by simp only [shg]; rw [if_pos hq, ha]; congr 1; (try first | rw [if_pos (by omega)] | rw [if_neg (by omega)]))) ?_
        rintro _ _ ⟨rfl, rfl⟩
        exact ⟨rfl, rfl⟩
    · refine Ex_iload_n dX7_shownTo_4 rfl rfl ?_
      refine Ex_aload_n dX7_shownTo_5 rfl rfl ?_
      refine Ex_getf dX7_shownTo_6 rfl (by first | exact hr | exact hA | exact hP _ (by omega)) rfl rfl rfl ?_
      refine Ex_icmp_ge (t := 59) dX7_shownTo_9 rfl rfl (by omega) (fun c9 => absurd c9 (by omega)) (fun c9 => ?_)
      refine Ex_aload_n dX7_shownTo_12 rfl rfl ?_
      refine Ex_getf dX7_shownTo_13 rfl (by first | exact hr | exact hA | exact hP _ (by omega)) rfl rfl rfl ?_
      refine Ex_iload_n dX7_shownTo_16 rfl rfl ?_
      refine Ex_aald dX7_shownTo_17 rfl (by first | exact hr | exact hA | exact hP _ (by omega)) (by omega) (by omega) (rarr_get (by omega)) ?_
      refine Ex_getf dX7_shownTo_18 rfl (by first | exact hr | exact hA | exact hP _ (by omega)) rfl rfl rfl ?_
      refine Ex_aload_n dX7_shownTo_21 rfl rfl ?_
      refine Ex_getf dX7_shownTo_22 rfl (by first | exact hr | exact hA | exact hP _ (by omega)) rfl rfl rfl ?_
      refine Ex_iload_n dX7_shownTo_25 rfl rfl ?_
      refine Ex_aald dX7_shownTo_26 rfl (by first | exact hr | exact hA | exact hP _ (by omega)) (by omega) (by omega) (rarr_get (by omega)) ?_
      refine Ex_getf dX7_shownTo_27 rfl (by first | exact hr | exact hA | exact hP _ (by omega)) rfl rfl rfl ?_
      refine Ex_icmp_le (t := 53) dX7_shownTo_30 rfl rfl (by omega) (fun c30 => ?_) (fun c30 => absurd c30 (by omega))
      refine Ex_iinc (L2 := [_, _, _, _]) dX7_shownTo_53 rfl rfl rfl ?_
      refine Ex_goto (t := 4) dX7_shownTo_56 rfl ?_
      refine Ex_post (ih (o + 1) _ (by omega) (by simp only [shg]; rw [if_neg hq, ha])) ?_
      rintro _ _ ⟨rfl, rfl⟩
      exact ⟨rfl, rfl⟩

theorem x7_shownTo {E : am_E} {d : Nat} {h : Hp} {r n : Nat} {m tu : Int} {kr : Nat → Nat} {T S C : Nat → Int} {c : Nat}  (R : RailAt h r n m tu kr T S C) (hg : Rng n T S C) (hc : c < n)  : Ex E (d + 1) mX7_shownTo 0 [.ref r, .int (i32 (c : Int)), .retAddr 0, .retAddr 0] [] h (fun r1 h1 => r1 = some (.int (i32 (shg S c n))) ∧ h1 = h) := by
  refine Ex_iconst dX7_shownTo_0 rfl ?_
  refine Ex_istore_n (L2 := [_, _, _, _]) dX7_shownTo_1 rfl rfl rfl ?_
  refine Ex_iconst dX7_shownTo_2 rfl ?_
  refine Ex_istore_n (L2 := [_, _, _, _]) dX7_shownTo_3 rfl rfl rfl ?_
  exact x7_shownTo_l R hg hc n 0 0 (by omega) rfl
