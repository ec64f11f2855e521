/-! bits, terms, odds, groups (by program: wip/whole/spec_p.py) -/
def shr (x y : Int32) : Int32 := (x.toUInt32 >>> (y.toUInt32 &&& Int32.toUInt32 31)).toInt32
def bc1 (x : Int32) : Int32 := x - (shr x (i32 1) &&& i32 1431655765)
def bc2 (x : Int32) : Int32 := (x &&& i32 858993459) + (shr x (i32 2) &&& i32 858993459)
def bc3 (x : Int32) : Int32 := (x + shr x (i32 4)) &&& i32 252645135
def bc4 (x : Int32) : Int32 := x + shr x (i32 8)
def bc5 (x : Int32) : Int32 := x + shr x (i32 16)
def pop (b : Nat) : Int := (if b.testBit 0 then 1 else 0) + (if b.testBit 1 then 1 else 0) + (if b.testBit 2 then 1 else 0) + (if b.testBit 3 then 1 else 0) + (if b.testBit 4 then 1 else 0) + (if b.testBit 5 then 1 else 0) + (if b.testBit 6 then 1 else 0) + (if b.testBit 7 then 1 else 0)
theorem bc_ok : ∀ b, b < 256 → bc5 (bc4 (bc3 (bc2 (bc1 (i32 ((b : Nat) : Int)))))) &&& i32 63 = i32 (pop b) := by decide +kernel
theorem pop_r (b : Nat) : 0 ≤ pop b ∧ pop b ≤ 8 := by
  unfold pop
  have h : ∀ i, (0 : Int) ≤ (if b.testBit i = true then 1 else 0) ∧ (if b.testBit i = true then (1 : Int) else 0) ≤ 1 := fun i => by split <;> omega
  have h0 := h 0
  have h1 := h 1
  have h2 := h 2
  have h3 := h 3
  have h4 := h 4
  have h5 := h 5
  have h6 := h 6
  have h7 := h 7
  omega
/-- GROUP: sets from b on, k of them, the best so far -/
def grp (n : Nat) (hd : Nat → Int) (hmax : Int) (b best : Nat) : Nat → Nat
  | 0 => best
  | k + 1 => if pop best < pop b ∧ sm (fun j => if b.testBit j then hd j else 0) 0 n ≤ hmax then grp n hd hmax (b + 1) b k else grp n hd hmax (b + 1) best k
theorem grp_lt {n : Nat} {hd : Nat → Int} {hmax : Int} {N : Nat} : ∀ (k b best : Nat), b + k ≤ N → best < N → grp n hd hmax b best k < N
  | 0, b, best, _, h => h
  | k + 1, b, best, h1, h2 => by
    simp only [grp]
    split
    · exact grp_lt k _ _ (by omega) (by omega)
    · exact grp_lt k _ _ (by omega) (by omega)
def an_group (n : Nat) (K F : Nat → Int) (hmax w : Int) : Int :=
  if (0 ≤ hmax ∧ hmax ≤ 30) ∧ (0 ≤ w ∧ w ≤ 1) then
    (if w = 0 then ((grp n (fun j => sp_holds (K j) (F j)) hmax 1 0 (2 ^ n - 1) : Nat) : Int) else pop (grp n (fun j => sp_holds (K j) (F j)) hmax 1 0 (2 ^ n - 1)))
  else -1
/-- a fraction in least terms -/
def ltm (u v : Nat) (p : Int) : Int := if p = 0 then (u : Int) / (Nat.gcd v u : Int) else (v : Int) / (Nat.gcd v u : Int)
/-- FRIGHTS: how many of the t ^ l outcomes are good -/
def oc (k f goal : Int) (t : Nat) (tr st : Int) : Nat → Nat
  | 0 => if goal ≤ st then 1 else 0
  | l + 1 => if 7 ≤ st then t * oc k f goal t tr st l else if tr < sp_needs k f st then t * oc k f goal t (max 0 (tr - sp_fright k f)) st l else oc k f goal t (max 0 (tr - sp_fright k f)) st l + (t - 1) * oc k f goal t tr (st + 1) l
theorem oc_le {k f goal : Int} {t : Nat} (ht : 0 < t) : ∀ (l : Nat) (tr st : Int), oc k f goal t tr st l ≤ t ^ l
  | 0, tr, st => by simp only [oc]; split <;> simp
  | l + 1, tr, st => by
    have e : t ^ (l + 1) = t ^ l * t := Nat.pow_succ _ _
    simp only [oc]
    split
    · rw [e, Nat.mul_comm]; exact Nat.mul_le_mul_right _ (oc_le ht l _ _)
    · split
      · rw [e, Nat.mul_comm]; exact Nat.mul_le_mul_right _ (oc_le ht l _ _)
      · have h1 := oc_le (k := k) (f := f) (goal := goal) ht l (max 0 (tr - sp_fright k f)) st
        have h2 : (t - 1) * oc k f goal t tr (st + 1) l ≤ (t - 1) * t ^ l := Nat.mul_le_mul_left _ (oc_le ht l _ _)
        have h3 : t ^ l * t = t ^ l + (t - 1) * t ^ l := by
          obtain ⟨s, rfl⟩ : ∃ s, t = s + 1 := ⟨t - 1, by omega⟩
          rw [Nat.mul_add, Nat.mul_one, Nat.add_sub_cancel, Nat.mul_comm, Nat.add_comm]
        rw [e, h3]
        omega
def an_frights (n : Nat) (K F T S : Nat → Int) (c l g t p : Int) : Int :=
  if (0 ≤ c ∧ c < (n : Int)) ∧ (0 ≤ l ∧ l ≤ 8) ∧ (0 ≤ g ∧ g ≤ 7) ∧ (2 ≤ t ∧ t ≤ 20) ∧ (0 ≤ p ∧ p ≤ 1) then
    ltm (oc (K c.toNat) (F c.toNat) (S c.toNat + g) t.toNat (T c.toNat) (S c.toNat) l.toNat) (t.toNat ^ l.toNat) p
  else 1000000001
def an_mean (n : Nat) (S : Nat → Int) (p : Int) : Int := if 0 ≤ p ∧ p ≤ 1 then ltm (sm S 0 n).toNat (max 1 n) p else 1000000001
theorem lcmp0 {b : Nat} : lcmpI (b : Int) 0 = if b = 0 then 0 else 1 := by
  unfold lcmpI
  by_cases e : b = 0
  · rw [if_neg (by omega), if_pos (by omega), if_pos e]
  · rw [if_pos (by omega), if_neg e]
theorem gcd_st {a b : Nat} : Nat.gcd b (a % b) = Nat.gcd a b := by rw [Nat.gcd_comm b, ← Nat.gcd_rec, Nat.gcd_comm]
theorem euclid {a b k : Nat} (hb : 0 < b) (h : (b ≤ a ∧ a * b < 2 ^ (k + 1)) ∨ a * b * 2 < 2 ^ (k + 1)) : a % b ≤ b ∧ b * (a % b) < 2 ^ k := by
  have e2 : 2 ^ (k + 1) = 2 ^ k * 2 := Nat.pow_succ _ _
  have hr : a % b < b := Nat.mod_lt _ hb
  have ha : a % b ≤ a := Nat.mod_le _ _
  refine ⟨by omega, ?_⟩
  rcases h with ⟨h1, h2⟩ | h2
  · have hd := Nat.div_add_mod a b
    have hq : 1 ≤ a / b := Nat.div_pos h1 hb
    have h3 : b * 1 ≤ b * (a / b) := Nat.mul_le_mul_left _ hq
    have h4 : (b + a % b) * b ≤ a * b := Nat.mul_le_mul_right _ (by omega)
    rw [Nat.add_mul] at h4
    have h5 : b * (a % b) ≤ b * b := Nat.mul_le_mul_left _ (by omega)
    have h6 : a % b * b = b * (a % b) := Nat.mul_comm _ _
    omega
  · have h3 : b * (a % b) ≤ b * a := Nat.mul_le_mul_left _ ha
    have h6 : b * a = a * b := Nat.mul_comm _ _
    omega
theorem j6_bitCount {E : am_E} {d : Nat} {h : Hp} {b : Nat}  (hb : b < 256)  : Ex E d mJ6_bitCount_0f7a4 0 [.int (i32 (b : Int))] [] h (fun r1 h1 => r1 = some (.int (i32 (pop b))) ∧ h1 = h) := by
  refine Ex_iload_n dJ6_bitCount_0f7a4_0 rfl rfl ?_
  refine Ex_iload_n dJ6_bitCount_0f7a4_1 rfl rfl ?_
  refine Ex_iconst dJ6_bitCount_0f7a4_2 rfl ?_
  refine Ex_iushrW dJ6_bitCount_0f7a4_3 rfl ?_
  refine Ex_ldc_w (z := 1431655765) dJ6_bitCount_0f7a4_4 rfl rfl ?_
  refine Ex_iandW dJ6_bitCount_0f7a4_7 rfl ?_
  refine Ex_isubW dJ6_bitCount_0f7a4_8 rfl ?_
  refine Ex_istore_n (L2 := [_]) dJ6_bitCount_0f7a4_9 rfl rfl rfl ?_
  refine Ex_iload_n dJ6_bitCount_0f7a4_10 rfl rfl ?_
  refine Ex_ldc_w (z := 858993459) dJ6_bitCount_0f7a4_11 rfl rfl ?_
  refine Ex_iandW dJ6_bitCount_0f7a4_14 rfl ?_
  refine Ex_iload_n dJ6_bitCount_0f7a4_15 rfl rfl ?_
  refine Ex_iconst dJ6_bitCount_0f7a4_16 rfl ?_
  refine Ex_iushrW dJ6_bitCount_0f7a4_17 rfl ?_
  refine Ex_ldc_w (z := 858993459) dJ6_bitCount_0f7a4_18 rfl rfl ?_
  refine Ex_iandW dJ6_bitCount_0f7a4_21 rfl ?_
  refine Ex_iaddW dJ6_bitCount_0f7a4_22 rfl ?_
  refine Ex_istore_n (L2 := [_]) dJ6_bitCount_0f7a4_23 rfl rfl rfl ?_
  refine Ex_iload_n dJ6_bitCount_0f7a4_24 rfl rfl ?_
  refine Ex_iload_n dJ6_bitCount_0f7a4_25 rfl rfl ?_
  refine Ex_iconst dJ6_bitCount_0f7a4_26 rfl ?_
  refine Ex_iushrW dJ6_bitCount_0f7a4_27 rfl ?_
  refine Ex_iaddW dJ6_bitCount_0f7a4_28 rfl ?_
  refine Ex_ldc_w (z := 252645135) dJ6_bitCount_0f7a4_29 rfl rfl ?_
  refine Ex_iandW dJ6_bitCount_0f7a4_32 rfl ?_
  refine Ex_istore_n (L2 := [_]) dJ6_bitCount_0f7a4_33 rfl rfl rfl ?_
  refine Ex_iload_n dJ6_bitCount_0f7a4_34 rfl rfl ?_
  refine Ex_iload_n dJ6_bitCount_0f7a4_35 rfl rfl ?_
  refine Ex_bipush dJ6_bitCount_0f7a4_36 rfl (by decide) ?_
  refine Ex_iushrW dJ6_bitCount_0f7a4_38 rfl ?_
  refine Ex_iaddW dJ6_bitCount_0f7a4_39 rfl ?_
  refine Ex_istore_n (L2 := [_]) dJ6_bitCount_0f7a4_40 rfl rfl rfl ?_
  refine Ex_iload_n dJ6_bitCount_0f7a4_41 rfl rfl ?_
  refine Ex_iload_n dJ6_bitCount_0f7a4_42 rfl rfl ?_
  refine Ex_bipush dJ6_bitCount_0f7a4_43 rfl (by decide) ?_
  refine Ex_iushrW dJ6_bitCount_0f7a4_45 rfl ?_
  refine Ex_iaddW dJ6_bitCount_0f7a4_46 rfl ?_
  refine Ex_istore_n (L2 := [_]) dJ6_bitCount_0f7a4_47 rfl rfl rfl ?_
  refine Ex_iload_n dJ6_bitCount_0f7a4_48 rfl rfl ?_
  refine Ex_bipush dJ6_bitCount_0f7a4_49 rfl (by decide) ?_
  refine Ex_iandW dJ6_bitCount_0f7a4_51 rfl ?_
  refine Ex_iret dJ6_bitCount_0f7a4_52 rfl rfl ?_
  exact ⟨congrArg (fun z => some (Value.int z)) (bc_ok b hb), rfl⟩
theorem x11_terms_l {E : am_E} {d : Nat} {h : Hp} {u v g : Nat} {p : Int}  (hu : u ≤ 68719476736) (hv : v ≤ 68719476736) (hp : 0 ≤ p ∧ p ≤ 1)  : ∀ (k : Nat) (a b : Nat) (i : Int) (v10 v11 : Value), i + k = 100 → 0 ≤ i → 0 < a ∧ a ≤ 68719476736 ∧ b ≤ 68719476736 → Nat.gcd a b = g → ((b ≤ a ∧ a * b < 2 ^ k) ∨ a * b * 2 < 2 ^ k) → Ex E d mX11_inLeastTerms 9 [.long (i64 (u : Int)), .retAddr 0, .long (i64 (v : Int)), .retAddr 0, .int (i32 p), .long (i64 (a : Int)), .retAddr 0, .long (i64 (b : Int)), .retAddr 0, .int (i32 i), v10, v11] [] h (fun r1 h1 => r1 = some (.long (i64 (if p = 0 then (u : Int) / (g : Int) else (v : Int) / (g : Int)))) ∧ h1 = h) := by
  intro k
  induction k with
  | zero =>
    intro a b i v10 v11 hk hi0 hab hg hm
    have hb0 : b = 0 := by
      have h2 : a * b < 1 := by
        have e1 : 2 ^ 0 = 1 := rfl
        omega
      by_cases hb : b = 0
      · exact hb
      · have := Nat.mul_pos hab.1 (show 0 < b by omega)
        omega
    subst hb0
    have e0 : a = g := by rw [← hg, Nat.gcd_zero_right]
    subst e0
    by_cases hpz : p = 0
    · rw [if_pos hpz]
      refine Ex_iload dX11_inLeastTerms_9 rfl rfl ?_
      refine Ex_bipush dX11_inLeastTerms_11 rfl (by decide) ?_
      refine Ex_icmp_ge (t := 44) dX11_inLeastTerms_13 rfl rfl (by omega) (fun c13 => ?_) (fun c13 => absurd c13 (by omega))
      refine Ex_lload dX11_inLeastTerms_44 rfl rfl ?_
      refine Ex_lconst (z := 0) dX11_inLeastTerms_46 rfl (by decide) ?_
      refine Ex_lcmp dX11_inLeastTerms_47 rfl (by omega) ?_
      refine Ex_if_ne (t := 55) dX11_inLeastTerms_48 rfl rfl (by rw [lcmp0]; split <;> omega) (fun c48 => ?_) (fun c48 => absurd c48 (by rw [lcmp0] at c48; first | (rw [if_pos (by omega)] at c48; omega) | (rw [if_neg (by omega)] at c48; omega)))
      refine Ex_iload dX11_inLeastTerms_55 rfl rfl ?_
      refine Ex_if_ne (t := 67) dX11_inLeastTerms_57 rfl rfl (by omega) (fun c57 => absurd c57 (by omega)) (fun c57 => ?_)
      refine Ex_lload_n dX11_inLeastTerms_60 rfl rfl ?_
      refine Ex_lload dX11_inLeastTerms_61 rfl rfl ?_
      refine Ex_ldiv dX11_inLeastTerms_63 rfl (by omega) (by omega) ?_
      refine Ex_goto (t := 71) dX11_inLeastTerms_64 rfl ?_
      refine Ex_lret dX11_inLeastTerms_71 rfl ?_
      exact ⟨rfl, rfl⟩
    · rw [if_neg hpz]
      refine Ex_iload dX11_inLeastTerms_9 rfl rfl ?_
      refine Ex_bipush dX11_inLeastTerms_11 rfl (by decide) ?_
      refine Ex_icmp_ge (t := 44) dX11_inLeastTerms_13 rfl rfl (by omega) (fun c13 => ?_) (fun c13 => absurd c13 (by omega))
      refine Ex_lload dX11_inLeastTerms_44 rfl rfl ?_
      refine Ex_lconst (z := 0) dX11_inLeastTerms_46 rfl (by decide) ?_
      refine Ex_lcmp dX11_inLeastTerms_47 rfl (by omega) ?_
      refine Ex_if_ne (t := 55) dX11_inLeastTerms_48 rfl rfl (by rw [lcmp0]; split <;> omega) (fun c48 => ?_) (fun c48 => absurd c48 (by rw [lcmp0] at c48; first | (rw [if_pos (by omega)] at c48; omega) | (rw [if_neg (by omega)] at c48; omega)))
      refine Ex_iload dX11_inLeastTerms_55 rfl rfl ?_
      refine Ex_if_ne (t := 67) dX11_inLeastTerms_57 rfl rfl (by omega) (fun c57 => ?_) (fun c57 => absurd c57 (by omega))
      refine Ex_lload_n dX11_inLeastTerms_67 rfl rfl ?_
      refine Ex_lload dX11_inLeastTerms_68 rfl rfl ?_
      refine Ex_ldiv dX11_inLeastTerms_70 rfl (by omega) (by omega) ?_
      refine Ex_lret dX11_inLeastTerms_71 rfl ?_
      exact ⟨rfl, rfl⟩
  | succ k ih =>
    intro a b i v10 v11 hk hi0 hab hg hm
    by_cases hb : b = 0
    · subst hb
      have e0 : a = g := by rw [← hg, Nat.gcd_zero_right]
      subst e0
      by_cases hpz : p = 0
      · rw [if_pos hpz]
        refine Ex_iload dX11_inLeastTerms_9 rfl rfl ?_
        refine Ex_bipush dX11_inLeastTerms_11 rfl (by decide) ?_
        refine Ex_icmp_ge (t := 44) dX11_inLeastTerms_13 rfl rfl (by omega) (fun c13 => absurd c13 (by omega)) (fun c13 => ?_)
        refine Ex_lload dX11_inLeastTerms_16 rfl rfl ?_
        refine Ex_lconst (z := 0) dX11_inLeastTerms_18 rfl (by decide) ?_
        refine Ex_lcmp dX11_inLeastTerms_19 rfl (by omega) ?_
        refine Ex_if_eq (t := 44) dX11_inLeastTerms_20 rfl rfl (by rw [lcmp0]; split <;> omega) (fun c20 => ?_) (fun c20 => absurd c20 (by rw [lcmp0] at c20; first | (rw [if_pos (by omega)] at c20; omega) | (rw [if_neg (by omega)] at c20; omega)))
        refine Ex_lload dX11_inLeastTerms_44 rfl rfl ?_
        refine Ex_lconst (z := 0) dX11_inLeastTerms_46 rfl (by decide) ?_
        refine Ex_lcmp dX11_inLeastTerms_47 rfl (by omega) ?_
        refine Ex_if_ne (t := 55) dX11_inLeastTerms_48 rfl rfl (by rw [lcmp0]; split <;> omega) (fun c48 => ?_) (fun c48 => absurd c48 (by rw [lcmp0] at c48; first | (rw [if_pos (by omega)] at c48; omega) | (rw [if_neg (by omega)] at c48; omega)))
        refine Ex_iload dX11_inLeastTerms_55 rfl rfl ?_
        refine Ex_if_ne (t := 67) dX11_inLeastTerms_57 rfl rfl (by omega) (fun c57 => absurd c57 (by omega)) (fun c57 => ?_)
        refine Ex_lload_n dX11_inLeastTerms_60 rfl rfl ?_
        refine Ex_lload dX11_inLeastTerms_61 rfl rfl ?_
        refine Ex_ldiv dX11_inLeastTerms_63 rfl (by omega) (by omega) ?_
        refine Ex_goto (t := 71) dX11_inLeastTerms_64 rfl ?_
        refine Ex_lret dX11_inLeastTerms_71 rfl ?_
        exact ⟨rfl, rfl⟩
      · rw [if_neg hpz]
        refine Ex_iload dX11_inLeastTerms_9 rfl rfl ?_
        refine Ex_bipush dX11_inLeastTerms_11 rfl (by decide) ?_
        refine Ex_icmp_ge (t := 44) dX11_inLeastTerms_13 rfl rfl (by omega) (fun c13 => absurd c13 (by omega)) (fun c13 => ?_)
        refine Ex_lload dX11_inLeastTerms_16 rfl rfl ?_
        refine Ex_lconst (z := 0) dX11_inLeastTerms_18 rfl (by decide) ?_
        refine Ex_lcmp dX11_inLeastTerms_19 rfl (by omega) ?_
        refine Ex_if_eq (t := 44) dX11_inLeastTerms_20 rfl rfl (by rw [lcmp0]; split <;> omega) (fun c20 => ?_) (fun c20 => absurd c20 (by rw [lcmp0] at c20; first | (rw [if_pos (by omega)] at c20; omega) | (rw [if_neg (by omega)] at c20; omega)))
        refine Ex_lload dX11_inLeastTerms_44 rfl rfl ?_
        refine Ex_lconst (z := 0) dX11_inLeastTerms_46 rfl (by decide) ?_
        refine Ex_lcmp dX11_inLeastTerms_47 rfl (by omega) ?_
        refine Ex_if_ne (t := 55) dX11_inLeastTerms_48 rfl rfl (by rw [lcmp0]; split <;> omega) (fun c48 => ?_) (fun c48 => absurd c48 (by rw [lcmp0] at c48; first | (rw [if_pos (by omega)] at c48; omega) | (rw [if_neg (by omega)] at c48; omega)))
        refine Ex_iload dX11_inLeastTerms_55 rfl rfl ?_
        refine Ex_if_ne (t := 67) dX11_inLeastTerms_57 rfl rfl (by omega) (fun c57 => ?_) (fun c57 => absurd c57 (by omega))
        refine Ex_lload_n dX11_inLeastTerms_67 rfl rfl ?_
        refine Ex_lload dX11_inLeastTerms_68 rfl rfl ?_
        refine Ex_ldiv dX11_inLeastTerms_70 rfl (by omega) (by omega) ?_
        refine Ex_lret dX11_inLeastTerms_71 rfl ?_
        exact ⟨rfl, rfl⟩
    · have eu := euclid (show 0 < b by omega) hm
      refine Ex_iload dX11_inLeastTerms_9 rfl rfl ?_
      refine Ex_bipush dX11_inLeastTerms_11 rfl (by decide) ?_
      refine Ex_icmp_ge (t := 44) dX11_inLeastTerms_13 rfl rfl (by omega) (fun c13 => absurd c13 (by omega)) (fun c13 => ?_)
      refine Ex_lload dX11_inLeastTerms_16 rfl rfl ?_
      refine Ex_lconst (z := 0) dX11_inLeastTerms_18 rfl (by decide) ?_
      refine Ex_lcmp dX11_inLeastTerms_19 rfl (by omega) ?_
      refine Ex_if_eq (t := 44) dX11_inLeastTerms_20 rfl rfl (by rw [lcmp0]; split <;> omega) (fun c20 => absurd c20 (by rw [lcmp0] at c20; first | (rw [if_pos (by omega)] at c20; omega) | (rw [if_neg (by omega)] at c20; omega))) (fun c20 => ?_)
      refine Ex_lload dX11_inLeastTerms_23 rfl rfl ?_
      refine Ex_lload dX11_inLeastTerms_25 rfl rfl ?_
      refine Ex_lrem dX11_inLeastTerms_27 rfl (by omega) (by omega) ?_
      refine Ex_lstore (L2 := [_, _, _, _, _, _, _, _, _, _, _, _]) dX11_inLeastTerms_28 rfl rfl rfl ?_
      refine Ex_lload dX11_inLeastTerms_30 rfl rfl ?_
      refine Ex_lstore (L2 := [_, _, _, _, _, _, _, _, _, _, _, _]) dX11_inLeastTerms_32 rfl rfl rfl ?_
      refine Ex_lload dX11_inLeastTerms_34 rfl rfl ?_
      refine Ex_lstore (L2 := [_, _, _, _, _, _, _, _, _, _, _, _]) dX11_inLeastTerms_36 rfl rfl rfl ?_
      refine Ex_iinc (L2 := [_, _, _, _, _, _, _, _, _, _, _, _]) dX11_inLeastTerms_38 rfl rfl rfl ?_
      refine Ex_goto (t := 9) dX11_inLeastTerms_41 rfl ?_
      exact ih b (a % b) (i + 1) _ _ (by omega) (by omega) (by omega) (by rw [gcd_st]; exact hg) (Or.inl eu)
theorem x11_terms {E : am_E} {d : Nat} {h : Hp} {u v : Nat} {p : Int}  (hu : u ≤ 68719476736) (hv : 0 < v ∧ v ≤ 68719476736) (hp : 0 ≤ p ∧ p ≤ 1)  : Ex E d mX11_inLeastTerms 0 [.long (i64 (u : Int)), .retAddr 0, .long (i64 (v : Int)), .retAddr 0, .int (i32 p), .retAddr 0, .retAddr 0, .retAddr 0, .retAddr 0, .retAddr 0, .retAddr 0, .retAddr 0] [] h (fun r1 h1 => r1 = some (.long (i64 (ltm u v p))) ∧ h1 = h) := by
  refine Ex_lload_n dX11_inLeastTerms_0 rfl rfl ?_
  refine Ex_lstore (L2 := [_, _, _, _, _, _, _, _, _, _, _, _]) dX11_inLeastTerms_1 rfl rfl rfl ?_
  refine Ex_lload_n dX11_inLeastTerms_3 rfl rfl ?_
  refine Ex_lstore (L2 := [_, _, _, _, _, _, _, _, _, _, _, _]) dX11_inLeastTerms_4 rfl rfl rfl ?_
  refine Ex_iconst dX11_inLeastTerms_6 rfl ?_
  refine Ex_istore (L2 := [_, _, _, _, _, _, _, _, _, _, _, _]) dX11_inLeastTerms_7 rfl rfl rfl ?_
  refine x11_terms_l hu hv.2 hp 100 v u 0 _ _ (by omega) (by omega) (by omega) rfl (Or.inr ?_)
  have h1 : v * u ≤ 68719476736 * 68719476736 := Nat.mul_le_mul hv.2 hu
  refine Nat.lt_of_le_of_lt (Nat.mul_le_mul_right 2 h1) ?_
  decide
theorem x11_outcomes {E : am_E} {d : Nat} {h : Hp} {b t : Nat} {k f goal : Int} (kc : KindAt h b k f) (ht : 2 ≤ t ∧ t ≤ 20) (hgl : 0 ≤ goal ∧ goal ≤ 14) : ∀ (l : Nat) (tr st : Int), l ≤ 8 → (0 ≤ tr ∧ tr ≤ 20) → (0 ≤ st ∧ st ≤ 7) → Ex E (d + l + 1) mX11_outcomes 0 [.ref b, .int (i32 tr), .int (i32 st), .int (i32 goal), .int (i32 (l : Int)), .int (i32 (t : Int)), .retAddr 0, .retAddr 0, .retAddr 0] [] h (fun r1 h1 => r1 = some (.long (i64 ((oc k f goal t tr st l : Nat) : Int))) ∧ h1 = h) := by
  have hfr := sp_fright_r (k := k) kc.2.2.2
  intro l
  induction l with
  | zero =>
    intro tr st hl htr hst
    by_cases q : goal ≤ st
    · rw [show oc k f goal t tr st 0 = 1 from if_pos q]
      refine Ex_iload dX11_outcomes_0 rfl rfl ?_
      refine Ex_if_gt (t := 16) dX11_outcomes_2 rfl rfl (by omega) (fun c2 => absurd c2 (by omega)) (fun c2 => ?_)
      refine Ex_iload_n dX11_outcomes_5 rfl rfl ?_
      refine Ex_iload_n dX11_outcomes_6 rfl rfl ?_
      refine Ex_icmp_lt (t := 14) dX11_outcomes_7 rfl rfl (by omega) (fun c7 => absurd c7 (by omega)) (fun c7 => ?_)
      refine Ex_lconst (z := 1) dX11_outcomes_10 rfl (by decide) ?_
      refine Ex_goto (t := 15) dX11_outcomes_11 rfl ?_
      refine Ex_lret dX11_outcomes_15 rfl ?_
      exact ⟨rfl, rfl⟩
    · rw [show oc k f goal t tr st 0 = 0 from if_neg q]
      refine Ex_iload dX11_outcomes_0 rfl rfl ?_
      refine Ex_if_gt (t := 16) dX11_outcomes_2 rfl rfl (by omega) (fun c2 => absurd c2 (by omega)) (fun c2 => ?_)
      refine Ex_iload_n dX11_outcomes_5 rfl rfl ?_
      refine Ex_iload_n dX11_outcomes_6 rfl rfl ?_
      refine Ex_icmp_lt (t := 14) dX11_outcomes_7 rfl rfl (by omega) (fun c7 => ?_) (fun c7 => absurd c7 (by omega))
      refine Ex_lconst (z := 0) dX11_outcomes_14 rfl (by decide) ?_
      refine Ex_lret dX11_outcomes_15 rfl ?_
      exact ⟨rfl, rfl⟩
  | succ l ih =>
    intro tr st hl htr hst
    have e1 : ((l + 1 : Nat) : Int) - 1 = (l : Int) := by omega
    by_cases q : 7 ≤ st
    rotate_left
    have hnd : sp_nd k f st = sp_needs k f st := by unfold sp_nd; rw [if_neg (by omega)]
    have hnr := sp_needs_r (k := k) kc.2.2.2 hst
    by_cases q2 : tr < sp_needs k f st
    · refine Ex_iload dX11_outcomes_0 rfl rfl ?_
      refine Ex_if_gt (t := 16) dX11_outcomes_2 rfl rfl (by omega) (fun c2 => ?_) (fun c2 => absurd c2 (by omega))
      refine Ex_iload_n dX11_outcomes_16 rfl rfl ?_
      refine Ex_bipush dX11_outcomes_17 rfl (by decide) ?_
      refine Ex_icmp_lt (t := 40) dX11_outcomes_19 rfl rfl (by omega) (fun c19 => ?_) (fun c19 => absurd c19 (by omega))
      refine Ex_iconst dX11_outcomes_40 rfl ?_
      refine Ex_iload_n dX11_outcomes_41 rfl rfl ?_
      refine Ex_aload_n dX11_outcomes_42 rfl rfl ?_
      refine Ex_getf dX11_outcomes_43 rfl kc.1 rfl (ktag_in _) rfl ?_
      refine Ex_isub dX11_outcomes_46 rfl ?_
      refine Ex_max dX11_outcomes_47 rfl rfl rfl (by omega) ?_
      refine Ex_istore (L2 := [_, _, _, _, _, _, _, _, _]) dX11_outcomes_50 rfl rfl rfl ?_
      refine Ex_aload_n dX11_outcomes_52 rfl rfl ?_
      refine Ex_iload dX11_outcomes_53 rfl rfl ?_
      refine Ex_iload_n dX11_outcomes_55 rfl rfl ?_
      refine Ex_iload_n dX11_outcomes_56 rfl rfl ?_
      refine Ex_iload dX11_outcomes_57 rfl rfl ?_
      refine Ex_iconst dX11_outcomes_59 rfl ?_
      refine Ex_isub dX11_outcomes_60 rfl ?_
      refine Ex_iload dX11_outcomes_61 rfl rfl ?_
      rw [e1]
      refine Ex_stat 0 dX11_outcomes_63 rfl rfl (Or.inl rfl) rfl rfl rfl rfl rfl rfl (Ex_post (ih (max 0 (tr - sp_fright k f)) st (by omega) (by omega) hst) ?_)
      rintro _ _ ⟨rfl, e0⟩
      obtain rfl := Eq.symm e0
      refine Ex_lstore (L2 := [_, _, _, _, _, _, _, _, _]) dX11_outcomes_66 rfl rfl rfl ?_
      refine Ex_iload_n dX11_outcomes_68 rfl rfl ?_
      refine Ex_aload_n dX11_outcomes_69 rfl rfl ?_
      refine Ex_iload_n dX11_outcomes_70 rfl rfl ?_
      refine Ex_inv 3 dX11_outcomes_71 rfl rfl (Or.inr rfl) rfl rfl rfl rfl kc.1 (ktag_in _) rfl rfl (Ex_post (x1_needsAt kc hst) ?_)
      rintro _ _ ⟨rfl, e0⟩
      obtain rfl := Eq.symm e0
      rw [hnd]
      refine Ex_icmp_ge (t := 84) dX11_outcomes_74 rfl rfl (by omega) (fun c74 => absurd c74 (by omega)) (fun c74 => ?_)
      refine Ex_iload dX11_outcomes_77 rfl rfl ?_
      refine Ex_i2l dX11_outcomes_79 rfl (by omega) ?_
      refine Ex_lload dX11_outcomes_80 rfl rfl ?_
      refine Ex_lmul dX11_outcomes_82 rfl ?_
      refine Ex_lret dX11_outcomes_83 rfl ?_
      refine ⟨?_, rfl⟩
      have e2 : oc k f goal t tr st (l + 1) = t * oc k f goal t (max 0 (tr - sp_fright k f)) st l := by simp only [oc]; rw [if_neg q, if_pos (by omega)]
      rw [e2, Int.natCast_mul]
    · refine Ex_iload dX11_outcomes_0 rfl rfl ?_
      refine Ex_if_gt (t := 16) dX11_outcomes_2 rfl rfl (by omega) (fun c2 => ?_) (fun c2 => absurd c2 (by omega))
      refine Ex_iload_n dX11_outcomes_16 rfl rfl ?_
      refine Ex_bipush dX11_outcomes_17 rfl (by decide) ?_
      refine Ex_icmp_lt (t := 40) dX11_outcomes_19 rfl rfl (by omega) (fun c19 => ?_) (fun c19 => absurd c19 (by omega))
      refine Ex_iconst dX11_outcomes_40 rfl ?_
      refine Ex_iload_n dX11_outcomes_41 rfl rfl ?_
      refine Ex_aload_n dX11_outcomes_42 rfl rfl ?_
      refine Ex_getf dX11_outcomes_43 rfl kc.1 rfl (ktag_in _) rfl ?_
      refine Ex_isub dX11_outcomes_46 rfl ?_
      refine Ex_max dX11_outcomes_47 rfl rfl rfl (by omega) ?_
      refine Ex_istore (L2 := [_, _, _, _, _, _, _, _, _]) dX11_outcomes_50 rfl rfl rfl ?_
      refine Ex_aload_n dX11_outcomes_52 rfl rfl ?_
      refine Ex_iload dX11_outcomes_53 rfl rfl ?_
      refine Ex_iload_n dX11_outcomes_55 rfl rfl ?_
      refine Ex_iload_n dX11_outcomes_56 rfl rfl ?_
      refine Ex_iload dX11_outcomes_57 rfl rfl ?_
      refine Ex_iconst dX11_outcomes_59 rfl ?_
      refine Ex_isub dX11_outcomes_60 rfl ?_
      refine Ex_iload dX11_outcomes_61 rfl rfl ?_
      rw [e1]
      refine Ex_stat 0 dX11_outcomes_63 rfl rfl (Or.inl rfl) rfl rfl rfl rfl rfl rfl (Ex_post (ih (max 0 (tr - sp_fright k f)) st (by omega) (by omega) hst) ?_)
      rintro _ _ ⟨rfl, e0⟩
      obtain rfl := Eq.symm e0
      refine Ex_lstore (L2 := [_, _, _, _, _, _, _, _, _]) dX11_outcomes_66 rfl rfl rfl ?_
      refine Ex_iload_n dX11_outcomes_68 rfl rfl ?_
      refine Ex_aload_n dX11_outcomes_69 rfl rfl ?_
      refine Ex_iload_n dX11_outcomes_70 rfl rfl ?_
      refine Ex_inv 3 dX11_outcomes_71 rfl rfl (Or.inr rfl) rfl rfl rfl rfl kc.1 (ktag_in _) rfl rfl (Ex_post (x1_needsAt kc hst) ?_)
      rintro _ _ ⟨rfl, e0⟩
      obtain rfl := Eq.symm e0
      rw [hnd]
      refine Ex_icmp_ge (t := 84) dX11_outcomes_74 rfl rfl (by omega) (fun c74 => ?_) (fun c74 => absurd c74 (by omega))
      refine Ex_lload dX11_outcomes_84 rfl rfl ?_
      refine Ex_iload dX11_outcomes_86 rfl rfl ?_
      refine Ex_iconst dX11_outcomes_88 rfl ?_
      refine Ex_isub dX11_outcomes_89 rfl ?_
      refine Ex_i2l dX11_outcomes_90 rfl (by omega) ?_
      refine Ex_aload_n dX11_outcomes_91 rfl rfl ?_
      refine Ex_iload_n dX11_outcomes_92 rfl rfl ?_
      refine Ex_iload_n dX11_outcomes_93 rfl rfl ?_
      refine Ex_iconst dX11_outcomes_94 rfl ?_
      refine Ex_iadd dX11_outcomes_95 rfl ?_
      refine Ex_iload_n dX11_outcomes_96 rfl rfl ?_
      refine Ex_iload dX11_outcomes_97 rfl rfl ?_
      refine Ex_iconst dX11_outcomes_99 rfl ?_
      refine Ex_isub dX11_outcomes_100 rfl ?_
      refine Ex_iload dX11_outcomes_101 rfl rfl ?_
      rw [e1]
      refine Ex_stat 0 dX11_outcomes_103 rfl rfl (Or.inl rfl) rfl rfl rfl rfl rfl rfl (Ex_post (ih tr (st + 1) (by omega) htr (by omega)) ?_)
      rintro _ _ ⟨rfl, e0⟩
      obtain rfl := Eq.symm e0
      refine Ex_lmul dX11_outcomes_106 rfl ?_
      refine Ex_ladd dX11_outcomes_107 rfl ?_
      refine Ex_lret dX11_outcomes_108 rfl ?_
      refine ⟨?_, rfl⟩
      have e2 : oc k f goal t tr st (l + 1) = oc k f goal t (max 0 (tr - sp_fright k f)) st l + (t - 1) * oc k f goal t tr (st + 1) l := by simp only [oc]; rw [if_neg q, if_neg q2]
      rw [e2, Int.natCast_add, Int.natCast_mul, show ((t - 1 : Nat) : Int) = (t : Int) - 1 by omega]
    · refine Ex_iload dX11_outcomes_0 rfl rfl ?_
      refine Ex_if_gt (t := 16) dX11_outcomes_2 rfl rfl (by omega) (fun c2 => ?_) (fun c2 => absurd c2 (by omega))
      refine Ex_iload_n dX11_outcomes_16 rfl rfl ?_
      refine Ex_bipush dX11_outcomes_17 rfl (by decide) ?_
      refine Ex_icmp_lt (t := 40) dX11_outcomes_19 rfl rfl (by omega) (fun c19 => absurd c19 (by omega)) (fun c19 => ?_)
      refine Ex_iload dX11_outcomes_22 rfl rfl ?_
      refine Ex_i2l dX11_outcomes_24 rfl (by omega) ?_
      refine Ex_aload_n dX11_outcomes_25 rfl rfl ?_
      refine Ex_iload_n dX11_outcomes_26 rfl rfl ?_
      refine Ex_iload_n dX11_outcomes_27 rfl rfl ?_
      refine Ex_iload_n dX11_outcomes_28 rfl rfl ?_
      refine Ex_iload dX11_outcomes_29 rfl rfl ?_
      refine Ex_iconst dX11_outcomes_31 rfl ?_
      refine Ex_isub dX11_outcomes_32 rfl ?_
      refine Ex_iload dX11_outcomes_33 rfl rfl ?_
      rw [e1]
      refine Ex_stat 0 dX11_outcomes_35 rfl rfl (Or.inl rfl) rfl rfl rfl rfl rfl rfl (Ex_post (ih tr st (by omega) htr hst) ?_)
      rintro _ _ ⟨rfl, e0⟩
      obtain rfl := Eq.symm e0
      refine Ex_lmul dX11_outcomes_38 rfl ?_
      refine Ex_lret dX11_outcomes_39 rfl ?_
      refine ⟨?_, rfl⟩
      have e2 : oc k f goal t tr st (l + 1) = t * oc k f goal t tr st l := by simp only [oc]; rw [if_pos q]
      rw [e2, Int.natCast_mul]
theorem x11_frights_l {E : am_E} {d : Nat} {h : Hp} {x y n : Nat} {hi m tu : Int} {kr : Nat → Nat} {K F T S C : Nat → Int} {c t : Nat} {l g p : Int}  (Z : Scr h x hi) (R : RailAt h (x + 10) n m tu kr T S C) (hg : Rng n T S C) (ky : KY h y n kr K F) (hB : E.2 ≤ x) (hy : x + 57 ≤ y) (hcn : c < n) (hl : 0 ≤ l ∧ l ≤ 8) (hg7 : 0 ≤ g ∧ g ≤ 7) (ht : 2 ≤ t ∧ t ≤ 20) (hp : 0 ≤ p ∧ p ≤ 1)  : ∀ (k : Nat) (i : Nat), i + k = l.toNat → Ex E (d + 10) mX11_frights 73 [.ref x, .int (i32 (c : Int)), .int (i32 l), .int (i32 g), .int (i32 (t : Int)), .int (i32 p), .ref (x + 10 + 2 + c), .long (i64 ((t ^ i : Nat) : Int)), .retAddr 0, .int (i32 (i : Int)), .retAddr 0] [] h (fun r1 h1 => r1 = some (.long (i64 (ltm (oc (K c) (F c) (S c + g) t (T c) (S c) l.toNat) (t ^ l.toNat) p))) ∧ h1 = h) := by
  obtain ⟨⟨bs, z0⟩, z1, ⟨f2, z2⟩, ⟨f3, z3⟩, ⟨f4, z4⟩, ⟨f5, z5⟩, zr0, zr1, zr2, ⟨k5, t5, s5, c5, z55⟩, ⟨k6, t6, s6, c6, z56⟩⟩ := id Z
  obtain ⟨hr, hA, hP, hG, hn6⟩ := id R
  have kk := ky.ok (r := x + 10) (by omega)
  have hgc := hg c hcn
  have kc := (kk c hcn).1
  have hpw : ∀ j : Nat, j ≤ 8 → t ^ j ≤ 25600000000 ∧ 0 < t ^ j := by
    intro j hj
    refine ⟨Nat.le_trans (Nat.pow_le_pow_left ht.2 j) (Nat.le_trans (Nat.pow_le_pow_right (by omega) hj) (by decide)), Nat.pow_pos (by omega)⟩
  intro k
  induction k with
  | zero =>
    intro i hk
    obtain ⟨l, rfl⟩ := Int.eq_ofNat_of_zero_le hl.1
    obtain rfl : i = l := by omega
    have hoc := oc_le (k := K c) (f := F c) (goal := S c + g) (t := t) (by omega) i (T c) (S c)
    have hpi := hpw i (by omega)
    · refine Ex_iload dX11_frights_73 rfl rfl ?_
      refine Ex_iload_n dX11_frights_75 rfl rfl ?_
      refine Ex_icmp_ge (t := 93) dX11_frights_76 rfl rfl (by omega) (fun c76 => ?_) (fun c76 => absurd c76 (by omega))
      refine Ex_aload dX11_frights_93 rfl rfl ?_
      refine Ex_getf dX11_frights_95 rfl (by first | exact z0 | exact z1 | exact hr | exact hA | exact hP _ (by omega) | exact z2 | exact z3 | exact z4 | exact z5 | exact (kk _ (by omega)).1.1 | exact z55 | exact z56) rfl rfl rfl ?_
      refine Ex_aload dX11_frights_98 rfl rfl ?_
      refine Ex_getf dX11_frights_100 rfl (by first | exact z0 | exact z1 | exact hr | exact hA | exact hP _ (by omega) | exact z2 | exact z3 | exact z4 | exact z5 | exact (kk _ (by omega)).1.1 | exact z55 | exact z56) rfl rfl rfl ?_
      refine Ex_aload dX11_frights_103 rfl rfl ?_
      refine Ex_getf dX11_frights_105 rfl (by first | exact z0 | exact z1 | exact hr | exact hA | exact hP _ (by omega) | exact z2 | exact z3 | exact z4 | exact z5 | exact (kk _ (by omega)).1.1 | exact z55 | exact z56) rfl rfl rfl ?_
      refine Ex_aload dX11_frights_108 rfl rfl ?_
      refine Ex_getf dX11_frights_110 rfl (by first | exact z0 | exact z1 | exact hr | exact hA | exact hP _ (by omega) | exact z2 | exact z3 | exact z4 | exact z5 | exact (kk _ (by omega)).1.1 | exact z55 | exact z56) rfl rfl rfl ?_
      refine Ex_iload_n dX11_frights_113 rfl rfl ?_
      refine Ex_iadd dX11_frights_114 rfl ?_
      refine Ex_iload_n dX11_frights_115 rfl rfl ?_
      refine Ex_iload dX11_frights_116 rfl rfl ?_
      refine Ex_stat 0 dX11_frights_118 rfl rfl (Or.inl rfl) rfl rfl rfl rfl rfl rfl (Ex_post (Ex_d (x11_outcomes (d := 0) kc ht (by omega) i (T c) (S c) (by omega) hgc.1 hgc.2.1) (by omega)) ?_)
      rintro _ _ ⟨rfl, e0⟩
      obtain rfl := Eq.symm e0
      refine Ex_lstore (L2 := [_, _, _, _, _, _, _, _, _, _, _]) dX11_frights_121 rfl rfl rfl ?_
      refine Ex_lload dX11_frights_123 rfl rfl ?_
      refine Ex_lload dX11_frights_125 rfl rfl ?_
      refine Ex_iload dX11_frights_127 rfl rfl ?_
      refine Ex_stat 0 dX11_frights_129 rfl rfl (Or.inl rfl) rfl rfl rfl rfl rfl rfl (Ex_post (x11_terms (by omega) (by omega) hp) ?_)
      rintro _ _ ⟨rfl, e0⟩
      obtain rfl := Eq.symm e0
      refine Ex_lret dX11_frights_132 rfl ?_
      exact ⟨rfl, rfl⟩
  | succ k ih =>
    intro i hk
    refine Ex_iload dX11_frights_73 rfl rfl ?_
    refine Ex_iload_n dX11_frights_75 rfl rfl ?_
    refine Ex_icmp_ge (t := 93) dX11_frights_76 rfl rfl (by omega) (fun c76 => absurd c76 (by omega)) (fun c76 => ?_)
    refine Ex_lload dX11_frights_79 rfl rfl ?_
    refine Ex_iload dX11_frights_81 rfl rfl ?_
    refine Ex_i2l dX11_frights_83 rfl (by omega) ?_
    refine Ex_lmul dX11_frights_84 rfl ?_
    refine Ex_lstore (L2 := [_, _, _, _, _, _, _, _, _, _, _]) dX11_frights_85 rfl rfl rfl ?_
    refine Ex_iinc (L2 := [_, _, _, _, _, _, _, _, _, _, _]) dX11_frights_87 rfl rfl rfl ?_
    refine Ex_goto (t := 73) dX11_frights_90 rfl ?_
    have e3 : ((t ^ i : Nat) : Int) * (t : Int) = ((t ^ (i + 1) : Nat) : Int) := by rw [Nat.pow_succ, Int.natCast_mul]
    rw [e3]
    exact ih (i + 1) (by omega)
theorem x11_frights {E : am_E} {d : Nat} {h : Hp} {x y n : Nat} {hi m tu : Int} {kr : Nat → Nat} {K F T S C : Nat → Int} {c l go t p : Int}  (Z : Scr h x hi) (R : RailAt h (x + 10) n m tu kr T S C) (hg : Rng n T S C) (ky : KY h y n kr K F) (hB : E.2 ≤ x) (hy : x + 57 ≤ y) (hc : (-2147483648 ≤ c ∧ c ≤ 2147483647)) (hl : (-2147483648 ≤ l ∧ l ≤ 2147483647)) (hgo : (-2147483648 ≤ go ∧ go ≤ 2147483647)) (ht : (-2147483648 ≤ t ∧ t ≤ 2147483647)) (hp : (-2147483648 ≤ p ∧ p ≤ 2147483647))  : Ex E (d + 10) mX11_frights 0 [.ref x, .int (i32 c), .int (i32 l), .int (i32 go), .int (i32 t), .int (i32 p), .retAddr 0, .retAddr 0, .retAddr 0, .retAddr 0, .retAddr 0] [] h (fun r1 h1 => r1 = some (.long (i64 (an_frights n K F T S c l go t p))) ∧ h1 = h) := by
  obtain ⟨⟨bs, z0⟩, z1, ⟨f2, z2⟩, ⟨f3, z3⟩, ⟨f4, z4⟩, ⟨f5, z5⟩, zr0, zr1, zr2, ⟨k5, t5, s5, c5, z55⟩, ⟨k6, t6, s6, c6, z56⟩⟩ := id Z
  obtain ⟨hr, hA, hP, hG, hn6⟩ := id R
  have kk := ky.ok (r := x + 10) (by omega)
  by_cases q : (0 ≤ c ∧ c < (n : Int)) ∧ (0 ≤ l ∧ l ≤ 8) ∧ (0 ≤ go ∧ go ≤ 7) ∧ (2 ≤ t ∧ t ≤ 20) ∧ (0 ≤ p ∧ p ≤ 1)
  · obtain ⟨c, rfl⟩ := Int.eq_ofNat_of_zero_le (show 0 ≤ c by omega)
    have hcn : c < n := by omega
    have hgc := hg c hcn
    have kc := (kk c hcn).1
    obtain ⟨t, rfl⟩ := Int.eq_ofNat_of_zero_le (show 0 ≤ t by omega)
    have ea : an_frights n K F T S (c : Int) l go (t : Int) p = ltm (oc (K c) (F c) (S c + go) t (T c) (S c) l.toNat) (t ^ l.toNat) p := by unfold an_frights; exact if_pos q
    rw [ea]
    refine Ex_aload_n dX11_frights_0 rfl rfl ?_
    refine Ex_getf dX11_frights_1 rfl (by first | exact z0 | exact z1 | exact hr | exact hA | exact hP _ (by omega) | exact z2 | exact z3 | exact z4 | exact z5 | exact (kk _ (by omega)).1.1 | exact z55 | exact z56) rfl rfl rfl ?_
    refine Ex_iload_n dX11_frights_4 rfl rfl ?_
    refine Ex_inv 2 dX11_frights_5 rfl rfl (Or.inl rfl) rfl rfl rfl rfl hr rfl rfl rfl (Ex_post (x7_has R (by omega)) ?_)
    rintro _ _ ⟨rfl, e0⟩
    obtain rfl := Eq.symm e0
    refine Ex_if_eq (t := 52) dX11_frights_8 rfl rfl (by omega) (fun c8 => absurd c8 (by omega)) (fun c8 => ?_)
    refine Ex_iload_n dX11_frights_11 rfl rfl ?_
    refine Ex_iconst dX11_frights_12 rfl ?_
    refine Ex_bipush dX11_frights_13 rfl (by decide) ?_
    refine Ex_stat 0 dX11_frights_15 rfl rfl (Or.inl rfl) rfl rfl rfl rfl rfl rfl (Ex_post (x11_within (by omega)) ?_)
    rintro _ _ ⟨rfl, e0⟩
    obtain rfl := Eq.symm e0
    refine Ex_if_eq (t := 52) dX11_frights_18 rfl rfl (by omega) (fun c18 => absurd c18 (by omega)) (fun c18 => ?_)
    refine Ex_iload_n dX11_frights_21 rfl rfl ?_
    refine Ex_iconst dX11_frights_22 rfl ?_
    refine Ex_bipush dX11_frights_23 rfl (by decide) ?_
    refine Ex_stat 0 dX11_frights_25 rfl rfl (Or.inl rfl) rfl rfl rfl rfl rfl rfl (Ex_post (x11_within (by omega)) ?_)
    rintro _ _ ⟨rfl, e0⟩
    obtain rfl := Eq.symm e0
    refine Ex_if_eq (t := 52) dX11_frights_28 rfl rfl (by omega) (fun c28 => absurd c28 (by omega)) (fun c28 => ?_)
    refine Ex_iload dX11_frights_31 rfl rfl ?_
    refine Ex_iconst dX11_frights_33 rfl ?_
    refine Ex_bipush dX11_frights_34 rfl (by decide) ?_
    refine Ex_stat 0 dX11_frights_36 rfl rfl (Or.inl rfl) rfl rfl rfl rfl rfl rfl (Ex_post (x11_within (by omega)) ?_)
    rintro _ _ ⟨rfl, e0⟩
    obtain rfl := Eq.symm e0
    refine Ex_if_eq (t := 52) dX11_frights_39 rfl rfl (by omega) (fun c39 => absurd c39 (by omega)) (fun c39 => ?_)
    refine Ex_iload dX11_frights_42 rfl rfl ?_
    refine Ex_iconst dX11_frights_44 rfl ?_
    refine Ex_iconst dX11_frights_45 rfl ?_
    refine Ex_stat 0 dX11_frights_46 rfl rfl (Or.inl rfl) rfl rfl rfl rfl rfl rfl (Ex_post (x11_within (by omega)) ?_)
    rintro _ _ ⟨rfl, e0⟩
    obtain rfl := Eq.symm e0
    refine Ex_if_ne (t := 56) dX11_frights_49 rfl rfl (by omega) (fun c49 => ?_) (fun c49 => absurd c49 (by omega))
    refine Ex_aload_n dX11_frights_56 rfl rfl ?_
    refine Ex_getf dX11_frights_57 rfl (by first | exact z0 | exact z1 | exact hr | exact hA | exact hP _ (by omega) | exact z2 | exact z3 | exact z4 | exact z5 | exact (kk _ (by omega)).1.1 | exact z55 | exact z56) rfl rfl rfl ?_
    refine Ex_getf dX11_frights_60 rfl (by first | exact z0 | exact z1 | exact hr | exact hA | exact hP _ (by omega) | exact z2 | exact z3 | exact z4 | exact z5 | exact (kk _ (by omega)).1.1 | exact z55 | exact z56) rfl rfl rfl ?_
    refine Ex_iload_n dX11_frights_63 rfl rfl ?_
    refine Ex_aald dX11_frights_64 rfl (by first | exact z0 | exact z1 | exact hr | exact hA | exact hP _ (by omega) | exact z2 | exact z3 | exact z4 | exact z5 | exact (kk _ (by omega)).1.1 | exact z55 | exact z56) (by omega) (by omega) (rarr_get (by omega)) ?_
    refine Ex_astore (L2 := [_, _, _, _, _, _, _, _, _, _, _]) dX11_frights_65 rfl rfl rfl ?_
    refine Ex_lconst (z := 1) dX11_frights_67 rfl (by decide) ?_
    refine Ex_lstore (L2 := [_, _, _, _, _, _, _, _, _, _, _]) dX11_frights_68 rfl rfl rfl ?_
    refine Ex_iconst dX11_frights_70 rfl ?_
    refine Ex_istore (L2 := [_, _, _, _, _, _, _, _, _, _, _]) dX11_frights_71 rfl rfl rfl ?_
    exact x11_frights_l Z R hg ky hB hy hcn q.2.1 q.2.2.1 (by omega) q.2.2.2.2 l.toNat 0 (by omega)
  · refine Ex_aload_n dX11_frights_0 rfl rfl ?_
    refine Ex_getf dX11_frights_1 rfl (by first | exact z0 | exact z1 | exact hr | exact hA | exact hP _ (by omega) | exact z2 | exact z3 | exact z4 | exact z5 | exact (kk _ (by omega)).1.1 | exact z55 | exact z56) rfl rfl rfl ?_
    refine Ex_iload_n dX11_frights_4 rfl rfl ?_
    refine Ex_inv 2 dX11_frights_5 rfl rfl (Or.inl rfl) rfl rfl rfl rfl hr rfl rfl rfl (Ex_post (x7_has R (by omega)) ?_)
    rintro _ _ ⟨rfl, e0⟩
    obtain rfl := Eq.symm e0
    refine Ex_if_eq (t := 52) dX11_frights_8 rfl rfl (by omega) (fun c8 => ?_) (fun c8 => ?_)
    · refine Ex_ldc2 (z := 1000000001) dX11_frights_52 rfl rfl ?_
      refine Ex_lret dX11_frights_55 rfl ?_
      exact ⟨by unfold an_frights; rw [if_neg q], rfl⟩
    · refine Ex_iload_n dX11_frights_11 rfl rfl ?_
      refine Ex_iconst dX11_frights_12 rfl ?_
      refine Ex_bipush dX11_frights_13 rfl (by decide) ?_
      refine Ex_stat 0 dX11_frights_15 rfl rfl (Or.inl rfl) rfl rfl rfl rfl rfl rfl (Ex_post (x11_within (by omega)) ?_)
      rintro _ _ ⟨rfl, e0⟩
      obtain rfl := Eq.symm e0
      refine Ex_if_eq (t := 52) dX11_frights_18 rfl rfl (by omega) (fun c18 => ?_) (fun c18 => ?_)
      · refine Ex_ldc2 (z := 1000000001) dX11_frights_52 rfl rfl ?_
        refine Ex_lret dX11_frights_55 rfl ?_
        exact ⟨by unfold an_frights; rw [if_neg q], rfl⟩
      · refine Ex_iload_n dX11_frights_21 rfl rfl ?_
        refine Ex_iconst dX11_frights_22 rfl ?_
        refine Ex_bipush dX11_frights_23 rfl (by decide) ?_
        refine Ex_stat 0 dX11_frights_25 rfl rfl (Or.inl rfl) rfl rfl rfl rfl rfl rfl (Ex_post (x11_within (by omega)) ?_)
        rintro _ _ ⟨rfl, e0⟩
        obtain rfl := Eq.symm e0
        refine Ex_if_eq (t := 52) dX11_frights_28 rfl rfl (by omega) (fun c28 => ?_) (fun c28 => ?_)
        · refine Ex_ldc2 (z := 1000000001) dX11_frights_52 rfl rfl ?_
          refine Ex_lret dX11_frights_55 rfl ?_
          exact ⟨by unfold an_frights; rw [if_neg q], rfl⟩
        · refine Ex_iload dX11_frights_31 rfl rfl ?_
          refine Ex_iconst dX11_frights_33 rfl ?_
          refine Ex_bipush dX11_frights_34 rfl (by decide) ?_
          refine Ex_stat 0 dX11_frights_36 rfl rfl (Or.inl rfl) rfl rfl rfl rfl rfl rfl (Ex_post (x11_within (by omega)) ?_)
          rintro _ _ ⟨rfl, e0⟩
          obtain rfl := Eq.symm e0
          refine Ex_if_eq (t := 52) dX11_frights_39 rfl rfl (by omega) (fun c39 => ?_) (fun c39 => ?_)
          · refine Ex_ldc2 (z := 1000000001) dX11_frights_52 rfl rfl ?_
            refine Ex_lret dX11_frights_55 rfl ?_
            exact ⟨by unfold an_frights; rw [if_neg q], rfl⟩
          · refine Ex_iload dX11_frights_42 rfl rfl ?_
            refine Ex_iconst dX11_frights_44 rfl ?_
            refine Ex_iconst dX11_frights_45 rfl ?_
            refine Ex_stat 0 dX11_frights_46 rfl rfl (Or.inl rfl) rfl rfl rfl rfl rfl rfl (Ex_post (x11_within (by omega)) ?_)
            rintro _ _ ⟨rfl, e0⟩
            obtain rfl := Eq.symm e0
            refine Ex_if_ne (t := 56) dX11_frights_49 rfl rfl (by omega) (fun c49 => ?_) (fun c49 => ?_)
            · exfalso; omega
            · refine Ex_ldc2 (z := 1000000001) dX11_frights_52 rfl rfl ?_
              refine Ex_lret dX11_frights_55 rfl ?_
              exact ⟨by unfold an_frights; rw [if_neg q], rfl⟩
theorem x11_mean {E : am_E} {d : Nat} {h : Hp} {x y n : Nat} {hi m tu : Int} {kr : Nat → Nat} {K F T S C : Nat → Int} {p : Int}  (Z : Scr h x hi) (R : RailAt h (x + 10) n m tu kr T S C) (hg : Rng n T S C) (ky : KY h y n kr K F) (hB : E.2 ≤ x) (hy : x + 57 ≤ y) (hp : (-2147483648 ≤ p ∧ p ≤ 2147483647))  : Ex E (d + 1) mX11_mean 0 [.ref x, .int (i32 p)] [] h (fun r1 h1 => r1 = some (.long (i64 (an_mean n S p))) ∧ h1 = h) := by
  obtain ⟨⟨bs, z0⟩, z1, ⟨f2, z2⟩, ⟨f3, z3⟩, ⟨f4, z4⟩, ⟨f5, z5⟩, zr0, zr1, zr2, ⟨k5, t5, s5, c5, z55⟩, ⟨k6, t6, s6, c6, z56⟩⟩ := id Z
  obtain ⟨hr, hA, hP, hG, hn6⟩ := id R
  have kk := ky.ok (r := x + 10) (by omega)
  by_cases q : 0 ≤ p ∧ p ≤ 1
  · have hs := sm_r (f := S) (b := 7) (n := n) (by omega) (fun i hi => (hg i hi).2.1) n 0 (by omega)
    have ea : an_mean n S p = ltm (sm S 0 n).toNat (max 1 n) p := by unfold an_mean; exact if_pos q
    rw [ea]
    refine Ex_iload_n dX11_mean_0 rfl rfl ?_
    refine Ex_iconst dX11_mean_1 rfl ?_
    refine Ex_iconst dX11_mean_2 rfl ?_
    refine Ex_stat 0 dX11_mean_3 rfl rfl (Or.inl rfl) rfl rfl rfl rfl rfl rfl (Ex_post (x11_within (by omega)) ?_)
    rintro _ _ ⟨rfl, e0⟩
    obtain rfl := Eq.symm e0
    refine Ex_if_ne (t := 13) dX11_mean_6 rfl rfl (by omega) (fun c6 => ?_) (fun c6 => absurd c6 (by omega))
    refine Ex_aload_n dX11_mean_13 rfl rfl ?_
    refine Ex_getf dX11_mean_14 rfl (by first | exact z0 | exact hr) rfl rfl rfl ?_
    refine Ex_inv 2 dX11_mean_17 rfl rfl (Or.inl rfl) rfl rfl rfl rfl hr rfl rfl rfl (Ex_post (x7_allSteps R hg) ?_)
    rintro _ _ ⟨rfl, e0⟩
    obtain rfl := Eq.symm e0
    refine Ex_i2l dX11_mean_20 rfl (by omega) ?_
    refine Ex_iconst dX11_mean_21 rfl ?_
    refine Ex_aload_n dX11_mean_22 rfl rfl ?_
    refine Ex_getf dX11_mean_23 rfl (by first | exact z0 | exact hr) rfl rfl rfl ?_
    refine Ex_getf dX11_mean_26 rfl (by first | exact z0 | exact hr) rfl rfl rfl ?_
    refine Ex_max dX11_mean_29 rfl rfl rfl (by omega) ?_
    refine Ex_i2l dX11_mean_32 rfl (by omega) ?_
    refine Ex_iload_n dX11_mean_33 rfl rfl ?_
    rw [show sm S 0 n = (((sm S 0 n).toNat : Nat) : Int) by omega, show max 1 (n : Int) = ((max 1 n : Nat) : Int) by omega]
    refine Ex_stat 0 dX11_mean_34 rfl rfl (Or.inl rfl) rfl rfl rfl rfl rfl rfl (Ex_post (x11_terms (u := (sm S 0 n).toNat) (v := max 1 n) (by omega) (by omega) q) ?_)
    rintro _ _ ⟨rfl, e0⟩
    obtain rfl := Eq.symm e0
    refine Ex_lret dX11_mean_37 rfl ?_
    exact ⟨rfl, rfl⟩
  · refine Ex_iload_n dX11_mean_0 rfl rfl ?_
    refine Ex_iconst dX11_mean_1 rfl ?_
    refine Ex_iconst dX11_mean_2 rfl ?_
    refine Ex_stat 0 dX11_mean_3 rfl rfl (Or.inl rfl) rfl rfl rfl rfl rfl rfl (Ex_post (x11_within (by omega)) ?_)
    rintro _ _ ⟨rfl, e0⟩
    obtain rfl := Eq.symm e0
    refine Ex_if_ne (t := 13) dX11_mean_6 rfl rfl (by omega) (fun c6 => absurd c6 (by omega)) (fun c6 => ?_)
    refine Ex_ldc2 (z := 1000000001) dX11_mean_9 rfl rfl ?_
    refine Ex_lret dX11_mean_12 rfl ?_
    exact ⟨by unfold an_mean; rw [if_neg q], rfl⟩
theorem x11_group_l {E : am_E} {d : Nat} {h : Hp} {x y n : Nat} {hi m tu : Int} {kr : Nat → Nat} {K F T S C : Nat → Int} {hmax w : Int} {N : Nat}  (Z : Scr h x hi) (R : RailAt h (x + 10) n m tu kr T S C) (hg : Rng n T S C) (ky : KY h y n kr K F) (hB : E.2 ≤ x) (hy : x + 57 ≤ y) (hN : N = 2 ^ n) (hh : 0 ≤ hmax ∧ hmax ≤ 30) (hw : 0 ≤ w ∧ w ≤ 1)  : ∀ (k : Nat) (b best : Nat), b + k = N → best < N → 1 ≤ b → Ex E (d + 1) mX11_group 26 [.ref x, .int (i32 hmax), .int (i32 w), .int (i32 (best : Int)), .int (i32 (b : Int))] [] h (fun r1 h1 => r1 = some (.int (i32 (if w = 0 then ((grp n (fun j => sp_holds (K j) (F j)) hmax b best k : Nat) : Int) else pop (grp n (fun j => sp_holds (K j) (F j)) hmax b best k)))) ∧ h1 = h) := by
  obtain ⟨⟨bs, z0⟩, z1, ⟨f2, z2⟩, ⟨f3, z3⟩, ⟨f4, z4⟩, ⟨f5, z5⟩, zr0, zr1, zr2, ⟨k5, t5, s5, c5, z55⟩, ⟨k6, t6, s6, c6, z56⟩⟩ := id Z
  obtain ⟨hr, hA, hP, hG, hn6⟩ := id R
  have kk := ky.ok (r := x + 10) (by omega)
  have hN6 : N ≤ 64 := by
    rw [hN]
    rcases (show n = 0 ∨ n = 1 ∨ n = 2 ∨ n = 3 ∨ n = 4 ∨ n = 5 ∨ n = 6 by omega) with e | e | e | e | e | e | e <;> rw [e] <;> decide
  have hNi : (2 : Int) ^ n = (N : Int) := by rw [hN]; exact (Int.natCast_pow 2 n).symm
  intro k
  induction k with
  | zero =>
    intro b best hk hbe hb1
    by_cases hw0 : w = 0
    · rw [if_pos hw0]
      refine Ex_iload dX11_group_26 rfl rfl ?_
      refine Ex_iconst dX11_group_28 rfl ?_
      refine Ex_aload_n dX11_group_29 rfl rfl ?_
      refine Ex_getf dX11_group_30 rfl (by first | exact z0 | exact hr) rfl rfl rfl ?_
      refine Ex_getf dX11_group_33 rfl (by first | exact z0 | exact hr) rfl rfl rfl ?_
      refine Ex_ishl (v := ((2 : Int) ^ n)) dX11_group_36 rfl (shl_bit n (by omega)) ?_
      rw [hNi]
      refine Ex_icmp_ge (t := 74) dX11_group_37 rfl rfl (by omega) (fun c37 => ?_) (fun c37 => absurd c37 (by omega))
      refine Ex_iload_n dX11_group_74 rfl rfl ?_
      refine Ex_if_ne (t := 82) dX11_group_75 rfl rfl (by omega) (fun c75 => absurd c75 (by omega)) (fun c75 => ?_)
      refine Ex_iload_n dX11_group_78 rfl rfl ?_
      refine Ex_goto (t := 86) dX11_group_79 rfl ?_
      refine Ex_iret dX11_group_86 rfl rfl ?_
      exact ⟨rfl, rfl⟩
    · rw [if_neg hw0]
      refine Ex_iload dX11_group_26 rfl rfl ?_
      refine Ex_iconst dX11_group_28 rfl ?_
      refine Ex_aload_n dX11_group_29 rfl rfl ?_
      refine Ex_getf dX11_group_30 rfl (by first | exact z0 | exact hr) rfl rfl rfl ?_
      refine Ex_getf dX11_group_33 rfl (by first | exact z0 | exact hr) rfl rfl rfl ?_
      refine Ex_ishl (v := ((2 : Int) ^ n)) dX11_group_36 rfl (shl_bit n (by omega)) ?_
      rw [hNi]
      refine Ex_icmp_ge (t := 74) dX11_group_37 rfl rfl (by omega) (fun c37 => ?_) (fun c37 => absurd c37 (by omega))
      refine Ex_iload_n dX11_group_74 rfl rfl ?_
      refine Ex_if_ne (t := 82) dX11_group_75 rfl rfl (by omega) (fun c75 => ?_) (fun c75 => absurd c75 (by omega))
      refine Ex_iload_n dX11_group_82 rfl rfl ?_
      refine Ex_stat 0 dX11_group_83 rfl rfl (Or.inl rfl) rfl rfl rfl rfl rfl rfl (Ex_post (j6_bitCount (by omega)) ?_)
      rintro _ _ ⟨rfl, e0⟩
      obtain rfl := Eq.symm e0
      refine Ex_iret dX11_group_86 rfl rfl ?_
      exact ⟨rfl, rfl⟩
  | succ k ih =>
    intro b best hk hbe hb1
    have p1 := pop_r b
    have p2 := pop_r best
    have hsb := sm_r (f := fun j => if b.testBit j then sp_holds (K j) (F j) else 0) (b := 6) (n := n) (by omega) (fun i hi => by have := sp_holds_r (k := K i) (kk i hi).1.2.2.2; (try dsimp only); split <;> omega) n 0 (by omega)
    have ea : grp n (fun j => sp_holds (K j) (F j)) hmax b best (k + 1) = if pop best < pop b ∧ sm (fun j => if b.testBit j then sp_holds (K j) (F j) else 0) 0 n ≤ hmax then grp n (fun j => sp_holds (K j) (F j)) hmax (b + 1) b k else grp n (fun j => sp_holds (K j) (F j)) hmax (b + 1) best k := rfl
    rw [ea]
    by_cases q : pop best < pop b ∧ sm (fun j => if b.testBit j then sp_holds (K j) (F j) else 0) 0 n ≤ hmax
    · rw [if_pos q]
      refine Ex_iload dX11_group_26 rfl rfl ?_
      refine Ex_iconst dX11_group_28 rfl ?_
      refine Ex_aload_n dX11_group_29 rfl rfl ?_
      refine Ex_getf dX11_group_30 rfl (by first | exact z0 | exact hr) rfl rfl rfl ?_
      refine Ex_getf dX11_group_33 rfl (by first | exact z0 | exact hr) rfl rfl rfl ?_
      refine Ex_ishl (v := ((2 : Int) ^ n)) dX11_group_36 rfl (shl_bit n (by omega)) ?_
      rw [hNi]
      refine Ex_icmp_ge (t := 74) dX11_group_37 rfl rfl (by omega) (fun c37 => absurd c37 (by omega)) (fun c37 => ?_)
      refine Ex_iload dX11_group_40 rfl rfl ?_
      refine Ex_stat 0 dX11_group_42 rfl rfl (Or.inl rfl) rfl rfl rfl rfl rfl rfl (Ex_post (j6_bitCount (by omega)) ?_)
      rintro _ _ ⟨rfl, e0⟩
      obtain rfl := Eq.symm e0
      refine Ex_iload_n dX11_group_45 rfl rfl ?_
      refine Ex_stat 0 dX11_group_46 rfl rfl (Or.inl rfl) rfl rfl rfl rfl rfl rfl (Ex_post (j6_bitCount (by omega)) ?_)
      rintro _ _ ⟨rfl, e0⟩
      obtain rfl := Eq.symm e0
      refine Ex_icmp_le (t := 68) dX11_group_49 rfl rfl (by omega) (fun c49 => absurd c49 (by omega)) (fun c49 => ?_)
      refine Ex_aload_n dX11_group_52 rfl rfl ?_
      refine Ex_getf dX11_group_53 rfl (by first | exact z0 | exact hr) rfl rfl rfl ?_
      refine Ex_iload dX11_group_56 rfl rfl ?_
      refine Ex_inv 2 dX11_group_58 rfl rfl (Or.inl rfl) rfl rfl rfl rfl hr rfl rfl rfl (Ex_post (x7_holdsOf R kk (by omega)) ?_)
      rintro _ _ ⟨rfl, e0⟩
      obtain rfl := Eq.symm e0
      refine Ex_iload_n dX11_group_61 rfl rfl ?_
      refine Ex_icmp_gt (t := 68) dX11_group_62 rfl rfl (by omega) (fun c62 => absurd c62 (by omega)) (fun c62 => ?_)
      refine Ex_iload dX11_group_65 rfl rfl ?_
      refine Ex_istore_n (L2 := [_, _, _, _, _]) dX11_group_67 rfl rfl rfl ?_
      refine Ex_iinc (L2 := [_, _, _, _, _]) dX11_group_68 rfl rfl rfl ?_
      refine Ex_goto (t := 26) dX11_group_71 rfl ?_
      exact ih (b + 1) b (by omega) (by omega) (by omega)
    · rw [if_neg q]
      refine Ex_iload dX11_group_26 rfl rfl ?_
      refine Ex_iconst dX11_group_28 rfl ?_
      refine Ex_aload_n dX11_group_29 rfl rfl ?_
      refine Ex_getf dX11_group_30 rfl (by first | exact z0 | exact hr) rfl rfl rfl ?_
      refine Ex_getf dX11_group_33 rfl (by first | exact z0 | exact hr) rfl rfl rfl ?_
      refine Ex_ishl (v := ((2 : Int) ^ n)) dX11_group_36 rfl (shl_bit n (by omega)) ?_
      rw [hNi]
      refine Ex_icmp_ge (t := 74) dX11_group_37 rfl rfl (by omega) (fun c37 => absurd c37 (by omega)) (fun c37 => ?_)
      refine Ex_iload dX11_group_40 rfl rfl ?_
      refine Ex_stat 0 dX11_group_42 rfl rfl (Or.inl rfl) rfl rfl rfl rfl rfl rfl (Ex_post (j6_bitCount (by omega)) ?_)
      rintro _ _ ⟨rfl, e0⟩
      obtain rfl := Eq.symm e0
      refine Ex_iload_n dX11_group_45 rfl rfl ?_
      refine Ex_stat 0 dX11_group_46 rfl rfl (Or.inl rfl) rfl rfl rfl rfl rfl rfl (Ex_post (j6_bitCount (by omega)) ?_)
      rintro _ _ ⟨rfl, e0⟩
      obtain rfl := Eq.symm e0
      refine Ex_icmp_le (t := 68) dX11_group_49 rfl rfl (by omega) (fun c49 => ?_) (fun c49 => ?_)
      · refine Ex_iinc (L2 := [_, _, _, _, _]) dX11_group_68 rfl rfl rfl ?_
        refine Ex_goto (t := 26) dX11_group_71 rfl ?_
        exact ih (b + 1) best (by omega) (by omega) (by omega)
      · refine Ex_aload_n dX11_group_52 rfl rfl ?_
        refine Ex_getf dX11_group_53 rfl (by first | exact z0 | exact hr) rfl rfl rfl ?_
        refine Ex_iload dX11_group_56 rfl rfl ?_
        refine Ex_inv 2 dX11_group_58 rfl rfl (Or.inl rfl) rfl rfl rfl rfl hr rfl rfl rfl (Ex_post (x7_holdsOf R kk (by omega)) ?_)
        rintro _ _ ⟨rfl, e0⟩
        obtain rfl := Eq.symm e0
        refine Ex_iload_n dX11_group_61 rfl rfl ?_
        refine Ex_icmp_gt (t := 68) dX11_group_62 rfl rfl (by omega) (fun c62 => ?_) (fun c62 => ?_)
        · refine Ex_iinc (L2 := [_, _, _, _, _]) dX11_group_68 rfl rfl rfl ?_
          refine Ex_goto (t := 26) dX11_group_71 rfl ?_
          exact ih (b + 1) best (by omega) (by omega) (by omega)
        · exfalso
          exact q ⟨by omega, by omega⟩
theorem x11_group {E : am_E} {d : Nat} {h : Hp} {x y n : Nat} {hi m tu : Int} {kr : Nat → Nat} {K F T S C : Nat → Int} {hmax w : Int}  (Z : Scr h x hi) (R : RailAt h (x + 10) n m tu kr T S C) (hg : Rng n T S C) (ky : KY h y n kr K F) (hB : E.2 ≤ x) (hy : x + 57 ≤ y) (hh : (-2147483648 ≤ hmax ∧ hmax ≤ 2147483647)) (hw : (-2147483648 ≤ w ∧ w ≤ 2147483647))  : Ex E (d + 1) mX11_group 0 [.ref x, .int (i32 hmax), .int (i32 w), .retAddr 0, .retAddr 0] [] h (fun r1 h1 => r1 = some (.int (i32 (an_group n K F hmax w))) ∧ h1 = h) := by
  obtain ⟨⟨bs, z0⟩, z1, ⟨f2, z2⟩, ⟨f3, z3⟩, ⟨f4, z4⟩, ⟨f5, z5⟩, zr0, zr1, zr2, ⟨k5, t5, s5, c5, z55⟩, ⟨k6, t6, s6, c6, z56⟩⟩ := id Z
  obtain ⟨hr, hA, hP, hG, hn6⟩ := id R
  have kk := ky.ok (r := x + 10) (by omega)
  by_cases q : (0 ≤ hmax ∧ hmax ≤ 30) ∧ (0 ≤ w ∧ w ≤ 1)
  · have ea : an_group n K F hmax w = if w = 0 then ((grp n (fun j => sp_holds (K j) (F j)) hmax 1 0 (2 ^ n - 1) : Nat) : Int) else pop (grp n (fun j => sp_holds (K j) (F j)) hmax 1 0 (2 ^ n - 1)) := by unfold an_group; exact if_pos q
    rw [ea]
    refine Ex_iload_n dX11_group_0 rfl rfl ?_
    refine Ex_iconst dX11_group_1 rfl ?_
    refine Ex_bipush dX11_group_2 rfl (by decide) ?_
    refine Ex_stat 0 dX11_group_4 rfl rfl (Or.inl rfl) rfl rfl rfl rfl rfl rfl (Ex_post (x11_within (by omega)) ?_)
    rintro _ _ ⟨rfl, e0⟩
    obtain rfl := Eq.symm e0
    refine Ex_if_eq (t := 19) dX11_group_7 rfl rfl (by omega) (fun c7 => absurd c7 (by omega)) (fun c7 => ?_)
    refine Ex_iload_n dX11_group_10 rfl rfl ?_
    refine Ex_iconst dX11_group_11 rfl ?_
    refine Ex_iconst dX11_group_12 rfl ?_
    refine Ex_stat 0 dX11_group_13 rfl rfl (Or.inl rfl) rfl rfl rfl rfl rfl rfl (Ex_post (x11_within (by omega)) ?_)
    rintro _ _ ⟨rfl, e0⟩
    obtain rfl := Eq.symm e0
    refine Ex_if_ne (t := 21) dX11_group_16 rfl rfl (by omega) (fun c16 => ?_) (fun c16 => absurd c16 (by omega))
    refine Ex_iconst dX11_group_21 rfl ?_
    refine Ex_istore_n (L2 := [_, _, _, _, _]) dX11_group_22 rfl rfl rfl ?_
    refine Ex_iconst dX11_group_23 rfl ?_
    refine Ex_istore (L2 := [_, _, _, _, _]) dX11_group_24 rfl rfl rfl ?_
    have hp0 : 1 ≤ 2 ^ n := Nat.one_le_two_pow
    exact x11_group_l Z R hg ky hB hy rfl q.1 q.2 (2 ^ n - 1) 1 0 (by omega) (by omega) (by omega)
  · refine Ex_iload_n dX11_group_0 rfl rfl ?_
    refine Ex_iconst dX11_group_1 rfl ?_
    refine Ex_bipush dX11_group_2 rfl (by decide) ?_
    refine Ex_stat 0 dX11_group_4 rfl rfl (Or.inl rfl) rfl rfl rfl rfl rfl rfl (Ex_post (x11_within (by omega)) ?_)
    rintro _ _ ⟨rfl, e0⟩
    obtain rfl := Eq.symm e0
    refine Ex_if_eq (t := 19) dX11_group_7 rfl rfl (by omega) (fun c7 => ?_) (fun c7 => ?_)
    · refine Ex_iconst dX11_group_19 rfl ?_
      refine Ex_iret dX11_group_20 rfl rfl ?_
      exact ⟨ri (by unfold an_group; rw [if_neg q]), rfl⟩
    · refine Ex_iload_n dX11_group_10 rfl rfl ?_
      refine Ex_iconst dX11_group_11 rfl ?_
      refine Ex_iconst dX11_group_12 rfl ?_
      refine Ex_stat 0 dX11_group_13 rfl rfl (Or.inl rfl) rfl rfl rfl rfl rfl rfl (Ex_post (x11_within (by omega)) ?_)
      rintro _ _ ⟨rfl, e0⟩
      obtain rfl := Eq.symm e0
      refine Ex_if_ne (t := 21) dX11_group_16 rfl rfl (by omega) (fun c16 => ?_) (fun c16 => ?_)
      · exfalso; omega
      · refine Ex_iconst dX11_group_19 rfl ?_
        refine Ex_iret dX11_group_20 rfl rfl ?_
        exact ⟨ri (by unfold an_group; rw [if_neg q]), rfl⟩
