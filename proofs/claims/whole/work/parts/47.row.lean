/-! Row (by program: wip/whole/spec_g.py) -/

theorem x8_size {E : am_E} {d : Nat} {h : Hp} {a : Nat} {so : Int} {xs : List Int}  (W : RowAt h a so xs)  : Ex E d mX8_size 0 [.ref a] [] h (fun r1 h1 => r1 = some (.int (i32 (xs.length : Int))) ∧ h1 = h) := by
  obtain ⟨w1, w2, w3, w4, w5⟩ := id W
  refine Ex_aload_n dX8_size_0 rfl rfl ?_
  refine Ex_getf dX8_size_1 rfl (by first | exact w1 | exact w2) rfl rfl rfl ?_
  refine Ex_alen (n := (xs.length : Int)) dX8_size_4 rfl (by first | exact w1 | exact w2) (by omega) (by rw [ia_len]) ?_
  refine Ex_iret dX8_size_5 rfl rfl ?_
  exact ⟨rfl, rfl⟩

theorem x8_has {E : am_E} {d : Nat} {h : Hp} {a : Nat} {so : Int} {xs : List Int} {i : Int}  (W : RowAt h a so xs) (hi : (-2147483648 ≤ i ∧ i ≤ 2147483647)) : Ex E (d + 1) mX8_has 0 [.ref a, .int (i32 i)] [] h (fun r1 h1 => r1 = some (.int (i32 (if 0 ≤ i ∧ i < (xs.length : Int) then 1 else 0))) ∧ h1 = h) := by
  obtain ⟨w1, w2, w3, w4, w5⟩ := id W
  refine Ex_iload_n dX8_has_0 rfl rfl ?_
  refine Ex_iconst dX8_has_1 rfl ?_
  refine Ex_aload_n dX8_has_2 rfl rfl ?_
  refine Ex_getf dX8_has_3 rfl (by first | exact w1 | exact w2) rfl rfl rfl ?_
  refine Ex_alen (n := (xs.length : Int)) dX8_has_6 rfl (by first | exact w1 | exact w2) (by omega) (by rw [ia_len]) ?_
  refine Ex_iconst dX8_has_7 rfl ?_
  refine Ex_isub dX8_has_8 rfl ?_
  refine Ex_stat 1 dX8_has_9 rfl rfl (Or.inr rfl) rfl rfl rfl rfl rfl rfl (Ex_post (x11_within (by omega)) ?_)
  rintro _ _ ⟨rfl, e0⟩
  obtain rfl := Eq.symm e0
  refine Ex_iret dX8_has_12 rfl (by (repeat' split) <;> rfl) ?_
  first | exact ⟨ri (by first | rfl | omega | rw [if_pos (by omega)] | rw [if_neg (by omega)]), rfl⟩

theorem x8_hasPart {E : am_E} {d : Nat} {h : Hp} {a : Nat} {so : Int} {xs : List Int} {i n : Int}  (W : RowAt h a so xs) (hi : (-2147483648 ≤ i ∧ i ≤ 2147483647)) (hn : (-2147483648 ≤ n ∧ n ≤ 2147483647)) : Ex E d mX8_hasPart 0 [.ref a, .int (i32 i), .int (i32 n)] [] h (fun r1 h1 => r1 = some (.int (i32 (if 0 ≤ i ∧ 0 ≤ n ∧ i ≤ (xs.length : Int) ∧ n ≤ (xs.length : Int) - i then 1 else 0))) ∧ h1 = h) := by
  obtain ⟨w1, w2, w3, w4, w5⟩ := id W
  refine Ex_iload_n dX8_hasPart_0 rfl rfl ?_
  refine Ex_if_lt (t := 32) dX8_hasPart_1 rfl rfl (by omega) (fun c1 => ?_) (fun c1 => ?_)
  · refine Ex_iconst dX8_hasPart_32 rfl ?_
    refine Ex_iret dX8_hasPart_33 rfl rfl ?_
    first | exact ⟨ri (by first | rfl | omega | rw [if_pos (by omega)] | rw [if_neg (by omega)]), rfl⟩
  · refine Ex_iload_n dX8_hasPart_4 rfl rfl ?_
    refine Ex_if_lt (t := 32) dX8_hasPart_5 rfl rfl (by omega) (fun c5 => ?_) (fun c5 => ?_)
    · refine Ex_iconst dX8_hasPart_32 rfl ?_
      refine Ex_iret dX8_hasPart_33 rfl rfl ?_
      first | exact ⟨ri (by first | rfl | omega | rw [if_pos (by omega)] | rw [if_neg (by omega)]), rfl⟩
    · refine Ex_iload_n dX8_hasPart_8 rfl rfl ?_
      refine Ex_aload_n dX8_hasPart_9 rfl rfl ?_
      refine Ex_getf dX8_hasPart_10 rfl (by first | exact w1 | exact w2) rfl rfl rfl ?_
      refine Ex_alen (n := (xs.length : Int)) dX8_hasPart_13 rfl (by first | exact w1 | exact w2) (by omega) (by rw [ia_len]) ?_
      refine Ex_icmp_gt (t := 32) dX8_hasPart_14 rfl rfl (by omega) (fun c14 => ?_) (fun c14 => ?_)
      · refine Ex_iconst dX8_hasPart_32 rfl ?_
        refine Ex_iret dX8_hasPart_33 rfl rfl ?_
        first | exact ⟨ri (by first | rfl | omega | rw [if_pos (by omega)] | rw [if_neg (by omega)]), rfl⟩
      · refine Ex_iload_n dX8_hasPart_17 rfl rfl ?_
        refine Ex_aload_n dX8_hasPart_18 rfl rfl ?_
        refine Ex_getf dX8_hasPart_19 rfl (by first | exact w1 | exact w2) rfl rfl rfl ?_
        refine Ex_alen (n := (xs.length : Int)) dX8_hasPart_22 rfl (by first | exact w1 | exact w2) (by omega) (by rw [ia_len]) ?_
        refine Ex_iload_n dX8_hasPart_23 rfl rfl ?_
        refine Ex_isub dX8_hasPart_24 rfl ?_
        refine Ex_icmp_gt (t := 32) dX8_hasPart_25 rfl rfl (by omega) (fun c25 => ?_) (fun c25 => ?_)
        · refine Ex_iconst dX8_hasPart_32 rfl ?_
          refine Ex_iret dX8_hasPart_33 rfl rfl ?_
          first | exact ⟨ri (by first | rfl | omega | rw [if_pos (by omega)] | rw [if_neg (by omega)]), rfl⟩
        · refine Ex_iconst dX8_hasPart_28 rfl ?_
          refine Ex_goto (t := 33) dX8_hasPart_29 rfl ?_
          refine Ex_iret dX8_hasPart_33 rfl rfl ?_
          first | exact ⟨ri (by first | rfl | omega | rw [if_pos (by omega)] | rw [if_neg (by omega)]), rfl⟩

theorem x8_at {E : am_E} {d : Nat} {h : Hp} {a : Nat} {so : Int} {xs : List Int} {i : Int}  (W : RowAt h a so xs) (hi : (-2147483648 ≤ i ∧ i ≤ 2147483647)) : Ex E (d + 2) mX8_at 0 [.ref a, .int (i32 i)] [] h (fun r1 h1 => r1 = some (.int (i32 (gx xs i))) ∧ h1 = h) := by
  obtain ⟨w1, w2, w3, w4, w5⟩ := id W
  refine Ex_aload_n dX8_at_0 rfl rfl ?_
  refine Ex_iload_n dX8_at_1 rfl rfl ?_
  refine Ex_inv 2 dX8_at_2 rfl rfl (Or.inl rfl) rfl rfl rfl rfl (by first | exact w1 | exact w2) rfl rfl rfl (Ex_post (x8_has W hi) ?_)
  rintro _ _ ⟨rfl, e0⟩
  obtain rfl := Eq.symm e0
  refine Ex_if_eq (t := 17) dX8_at_5 rfl rfl (by omega) (fun c5 => ?_) (fun c5 => ?_)
  · refine Ex_iconst dX8_at_17 rfl ?_
    refine Ex_iret dX8_at_18 rfl rfl ?_
    exact ⟨ri (by unfold gx; first | rw [if_pos (by omega)] | rw [if_neg (by omega)]), rfl⟩
  · refine Ex_aload_n dX8_at_8 rfl rfl ?_
    refine Ex_getf dX8_at_9 rfl (by first | exact w1 | exact w2) rfl rfl rfl ?_
    refine Ex_iload_n dX8_at_12 rfl rfl ?_
    refine Ex_iald dX8_at_13 rfl (by first | exact w1 | exact w2) (by omega) (ia_get (by omega)) ?_
    refine Ex_goto (t := 18) dX8_at_14 rfl ?_
    refine Ex_iret dX8_at_18 rfl rfl ?_
    exact ⟨ri (by unfold gx; first | rw [if_pos (by omega)] | rw [if_neg (by omega)]), rfl⟩
theorem x8_set {E : am_E} {d : Nat} {h : Hp} {a : Nat} {so : Int} {xs : List Int} {i v : Int}  (W : RowAt h a so xs) (hB : E.2 ≤ a) (hi : 0 ≤ i ∧ i < (xs.length : Int)) : Ex E (d + 2) mX8_set 0 [.ref a, .int (i32 i), .int (i32 v)] [] h (fun r h1 => r = none ∧ h1 = am_put h (a + 1) (20, ia (xs.set i.toNat (nrw so v)))) := by
  obtain ⟨w1, w2, w3, w4, w5⟩ := id W
  rcases (show so = 0 ∨ so = 1 ∨ so = 2 by omega) with e | e | e
  · subst e
    refine Ex_aload_n dX8_set_0 rfl rfl ?_
    refine Ex_iload_n dX8_set_1 rfl rfl ?_
    refine Ex_inv 2 dX8_set_2 rfl rfl (Or.inl rfl) rfl rfl rfl rfl (by first | exact w1 | exact w2) rfl rfl rfl (Ex_post (x8_has W (by omega)) ?_)
    rintro _ _ ⟨rfl, e0⟩
    obtain rfl := Eq.symm e0
    refine Ex_if_eq (t := 40) dX8_set_5 rfl rfl (by omega) (fun c5 => absurd c5 (by omega)) (fun c5 => ?_)
    refine Ex_aload_n dX8_set_8 rfl rfl ?_
    refine Ex_getf dX8_set_9 rfl (by first | exact w1 | exact w2) rfl rfl rfl ?_
    refine Ex_iload_n dX8_set_12 rfl rfl ?_
    refine Ex_aload_n dX8_set_13 rfl rfl ?_
    refine Ex_getf dX8_set_14 rfl (by first | exact w1 | exact w2) rfl rfl rfl ?_
    refine Ex_if_ne (t := 25) dX8_set_17 rfl rfl (by omega) (fun c17 => absurd c17 (by omega)) (fun c17 => ?_)
    refine Ex_iload_n dX8_set_20 rfl rfl ?_
    refine Ex_i2b dX8_set_21 rfl ?_
    refine Ex_goto (t := 39) dX8_set_22 rfl ?_
    rw [i2b_i]
    refine Ex_iast dX8_set_39 rfl (by first | exact w1 | exact w2) (by omega) (by rw [ia_len]; omega) (by omega) ia_set ?_
    refine Ex_vret dX8_set_40 rfl ?_
    exact ⟨rfl, rfl⟩
  · subst e
    refine Ex_aload_n dX8_set_0 rfl rfl ?_
    refine Ex_iload_n dX8_set_1 rfl rfl ?_
    refine Ex_inv 2 dX8_set_2 rfl rfl (Or.inl rfl) rfl rfl rfl rfl (by first | exact w1 | exact w2) rfl rfl rfl (Ex_post (x8_has W (by omega)) ?_)
    rintro _ _ ⟨rfl, e0⟩
    obtain rfl := Eq.symm e0
    refine Ex_if_eq (t := 40) dX8_set_5 rfl rfl (by omega) (fun c5 => absurd c5 (by omega)) (fun c5 => ?_)
    refine Ex_aload_n dX8_set_8 rfl rfl ?_
    refine Ex_getf dX8_set_9 rfl (by first | exact w1 | exact w2) rfl rfl rfl ?_
    refine Ex_iload_n dX8_set_12 rfl rfl ?_
    refine Ex_aload_n dX8_set_13 rfl rfl ?_
    refine Ex_getf dX8_set_14 rfl (by first | exact w1 | exact w2) rfl rfl rfl ?_
    refine Ex_if_ne (t := 25) dX8_set_17 rfl rfl (by omega) (fun c17 => ?_) (fun c17 => absurd c17 (by omega))
    refine Ex_aload_n dX8_set_25 rfl rfl ?_
    refine Ex_getf dX8_set_26 rfl (by first | exact w1 | exact w2) rfl rfl rfl ?_
    refine Ex_iconst dX8_set_29 rfl ?_
    refine Ex_icmp_ne (t := 38) dX8_set_30 rfl rfl (by omega) (fun c30 => absurd c30 (by omega)) (fun c30 => ?_)
    refine Ex_iload_n dX8_set_33 rfl rfl ?_
    refine Ex_i2s dX8_set_34 rfl ?_
    refine Ex_goto (t := 39) dX8_set_35 rfl ?_
    rw [i2s_i]
    refine Ex_iast dX8_set_39 rfl (by first | exact w1 | exact w2) (by omega) (by rw [ia_len]; omega) (by omega) ia_set ?_
    refine Ex_vret dX8_set_40 rfl ?_
    exact ⟨rfl, rfl⟩
  · subst e
    refine Ex_aload_n dX8_set_0 rfl rfl ?_
    refine Ex_iload_n dX8_set_1 rfl rfl ?_
    refine Ex_inv 2 dX8_set_2 rfl rfl (Or.inl rfl) rfl rfl rfl rfl (by first | exact w1 | exact w2) rfl rfl rfl (Ex_post (x8_has W (by omega)) ?_)
    rintro _ _ ⟨rfl, e0⟩
    obtain rfl := Eq.symm e0
    refine Ex_if_eq (t := 40) dX8_set_5 rfl rfl (by omega) (fun c5 => absurd c5 (by omega)) (fun c5 => ?_)
    refine Ex_aload_n dX8_set_8 rfl rfl ?_
    refine Ex_getf dX8_set_9 rfl (by first | exact w1 | exact w2) rfl rfl rfl ?_
    refine Ex_iload_n dX8_set_12 rfl rfl ?_
    refine Ex_aload_n dX8_set_13 rfl rfl ?_
    refine Ex_getf dX8_set_14 rfl (by first | exact w1 | exact w2) rfl rfl rfl ?_
    refine Ex_if_ne (t := 25) dX8_set_17 rfl rfl (by omega) (fun c17 => ?_) (fun c17 => absurd c17 (by omega))
    refine Ex_aload_n dX8_set_25 rfl rfl ?_
    refine Ex_getf dX8_set_26 rfl (by first | exact w1 | exact w2) rfl rfl rfl ?_
    refine Ex_iconst dX8_set_29 rfl ?_
    refine Ex_icmp_ne (t := 38) dX8_set_30 rfl rfl (by omega) (fun c30 => ?_) (fun c30 => absurd c30 (by omega))
    refine Ex_iload_n dX8_set_38 rfl rfl ?_
    refine Ex_iast dX8_set_39 rfl (by first | exact w1 | exact w2) (by omega) (by rw [ia_len]; omega) (by omega) ia_set ?_
    refine Ex_vret dX8_set_40 rfl ?_
    exact ⟨rfl, rfl⟩

theorem x8_least {E : am_E} {d : Nat} {h : Hp} {a : Nat} {so : Int} {xs : List Int}  (W : RowAt h a so xs)  : Ex E d mX8_least 0 [.ref a] [] h (fun r1 h1 => r1 = some (.int (i32 (lst so))) ∧ h1 = h) := by
  obtain ⟨w1, w2, w3, w4, w5⟩ := id W
  refine Ex_aload_n dX8_least_0 rfl rfl ?_
  refine Ex_getf dX8_least_1 rfl (by first | exact w1 | exact w2) rfl rfl rfl ?_
  refine Ex_if_ne (t := 12) dX8_least_4 rfl rfl (by omega) (fun c4 => ?_) (fun c4 => ?_)
  · refine Ex_aload_n dX8_least_12 rfl rfl ?_
    refine Ex_getf dX8_least_13 rfl (by first | exact w1 | exact w2) rfl rfl rfl ?_
    refine Ex_iconst dX8_least_16 rfl ?_
    refine Ex_icmp_ne (t := 26) dX8_least_17 rfl rfl (by omega) (fun c17 => ?_) (fun c17 => ?_)
    · refine Ex_ldc (z := (-2147483648)) dX8_least_26 rfl rfl ?_
      refine Ex_iret dX8_least_28 rfl rfl ?_
      exact ⟨ri (by unfold lst; first | rw [if_pos (by omega)] | rw [if_neg (by omega), if_pos (by omega)] | rw [if_neg (by omega), if_neg (by omega)]), rfl⟩
    · refine Ex_sipush dX8_least_20 rfl (by decide) ?_
      refine Ex_goto (t := 28) dX8_least_23 rfl ?_
      refine Ex_iret dX8_least_28 rfl rfl ?_
      exact ⟨ri (by unfold lst; first | rw [if_pos (by omega)] | rw [if_neg (by omega), if_pos (by omega)] | rw [if_neg (by omega), if_neg (by omega)]), rfl⟩
  · refine Ex_bipush dX8_least_7 rfl (by decide) ?_
    refine Ex_goto (t := 28) dX8_least_9 rfl ?_
    refine Ex_iret dX8_least_28 rfl rfl ?_
    exact ⟨ri (by unfold lst; first | rw [if_pos (by omega)] | rw [if_neg (by omega), if_pos (by omega)] | rw [if_neg (by omega), if_neg (by omega)]), rfl⟩

theorem x8_digitsBehind {E : am_E} {d : Nat} {h : Hp} {z : Int}  (hz : (-2147483648 ≤ z ∧ z ≤ 2147483647)) : Ex E d mX8_digitsBehind 0 [.int (i32 z)] [] h (fun r1 h1 => r1 = some (.int (i32 (dB z))) ∧ h1 = h) := by
  refine Ex_iload_n dX8_digitsBehind_0 rfl rfl ?_
  rcases (show z = 98 ∨ z = 99 ∨ z = 109 ∨ z = 115 ∨ z = 116 ∨ z = 120 ∨ (z ≠ 98 ∧ z ≠ 99 ∧ z ≠ 109 ∧ z ≠ 115 ∧ z ≠ 116 ∧ z ≠ 120) by omega) with e | e | e | e | e | e | e
  · subst e
    refine Ex_look (off := 65) (t := 66) dX8_digitsBehind_1 (by omega) rfl rfl rfl ?_
    refine Ex_iconst dX8_digitsBehind_66 rfl ?_
    refine Ex_iret dX8_digitsBehind_67 rfl rfl ?_
    exact ⟨ri (by first | rfl | (unfold dB; rw [if_neg (by omega), if_neg (by omega), if_neg (by omega), if_neg (by omega), if_neg (by omega), if_neg (by omega)])), rfl⟩
  · subst e
    refine Ex_look (off := 59) (t := 60) dX8_digitsBehind_1 (by omega) rfl rfl rfl ?_
    refine Ex_iconst dX8_digitsBehind_60 rfl ?_
    refine Ex_iret dX8_digitsBehind_61 rfl rfl ?_
    exact ⟨ri (by first | rfl | (unfold dB; rw [if_neg (by omega), if_neg (by omega), if_neg (by omega), if_neg (by omega), if_neg (by omega), if_neg (by omega)])), rfl⟩
  · subst e
    refine Ex_look (off := 63) (t := 64) dX8_digitsBehind_1 (by omega) rfl rfl rfl ?_
    refine Ex_iconst dX8_digitsBehind_64 rfl ?_
    refine Ex_iret dX8_digitsBehind_65 rfl rfl ?_
    exact ⟨ri (by first | rfl | (unfold dB; rw [if_neg (by omega), if_neg (by omega), if_neg (by omega), if_neg (by omega), if_neg (by omega), if_neg (by omega)])), rfl⟩
  · subst e
    refine Ex_look (off := 63) (t := 64) dX8_digitsBehind_1 (by omega) rfl rfl rfl ?_
    refine Ex_iconst dX8_digitsBehind_64 rfl ?_
    refine Ex_iret dX8_digitsBehind_65 rfl rfl ?_
    exact ⟨ri (by first | rfl | (unfold dB; rw [if_neg (by omega), if_neg (by omega), if_neg (by omega), if_neg (by omega), if_neg (by omega), if_neg (by omega)])), rfl⟩
  · subst e
    refine Ex_look (off := 61) (t := 62) dX8_digitsBehind_1 (by omega) rfl rfl rfl ?_
    refine Ex_iconst dX8_digitsBehind_62 rfl ?_
    refine Ex_iret dX8_digitsBehind_63 rfl rfl ?_
    exact ⟨ri (by first | rfl | (unfold dB; rw [if_neg (by omega), if_neg (by omega), if_neg (by omega), if_neg (by omega), if_neg (by omega), if_neg (by omega)])), rfl⟩
  · subst e
    refine Ex_look (off := 63) (t := 64) dX8_digitsBehind_1 (by omega) rfl rfl rfl ?_
    refine Ex_iconst dX8_digitsBehind_64 rfl ?_
    refine Ex_iret dX8_digitsBehind_65 rfl rfl ?_
    exact ⟨ri (by first | rfl | (unfold dB; rw [if_neg (by omega), if_neg (by omega), if_neg (by omega), if_neg (by omega), if_neg (by omega), if_neg (by omega)])), rfl⟩
  · refine Ex_look (off := 67) (t := 68) dX8_digitsBehind_1 hz rfl (by show Op.lookupswitch.offset [(98, 65), (99, 59), (109, 63), (115, 63), (116, 61), (120, 63)] 67 z = 67; rw [Op.lookupswitch.offset_cons, if_neg (by omega), Op.lookupswitch.offset_cons, if_neg (by omega), Op.lookupswitch.offset_cons, if_neg (by omega), Op.lookupswitch.offset_cons, if_neg (by omega), Op.lookupswitch.offset_cons, if_neg (by omega), Op.lookupswitch.offset_cons, if_neg (by omega)]; rfl) rfl ?_
    refine Ex_iconst dX8_digitsBehind_68 rfl ?_
    refine Ex_iret dX8_digitsBehind_69 rfl rfl ?_
    exact ⟨ri (by first | rfl | (unfold dB; rw [if_neg (by omega), if_neg (by omega), if_neg (by omega), if_neg (by omega), if_neg (by omega), if_neg (by omega)])), rfl⟩

theorem x8_number1 {E : am_E} {d : Nat} {h : Hp} {a : Nat} {so : Int} {xs : List Int} {p : Int}  (W : RowAt h a so xs) (hp : 0 ≤ p ∧ p ≤ 1000) : Ex E (d + 3) mX8_number 0 [.ref a, .int (i32 p), .int (i32 1), .retAddr 0, .retAddr 0] [] h (fun r1 h1 => r1 = some (.int (i32 (gx xs p - 48))) ∧ h1 = h) := by
  obtain ⟨w1, w2, w3, w4, w5⟩ := id W
  refine Ex_iconst dX8_number_0 rfl ?_
  refine Ex_istore_n (L2 := [_, _, _, _, _]) dX8_number_1 rfl rfl rfl ?_
  refine Ex_iconst dX8_number_2 rfl ?_
  refine Ex_istore (L2 := [_, _, _, _, _]) dX8_number_3 rfl rfl rfl ?_
  refine Ex_iload dX8_number_5 rfl rfl ?_
  refine Ex_iload_n dX8_number_7 rfl rfl ?_
  refine Ex_icmp_ge (t := 34) dX8_number_8 rfl rfl (by omega) (fun c8 => absurd c8 (by omega)) (fun c8 => ?_)
  refine Ex_iload_n dX8_number_11 rfl rfl ?_
  refine Ex_bipush dX8_number_12 rfl (by decide) ?_
  refine Ex_imul dX8_number_14 rfl ?_
  refine Ex_aload_n dX8_number_15 rfl rfl ?_
  refine Ex_iload_n dX8_number_16 rfl rfl ?_
  refine Ex_iload dX8_number_17 rfl rfl ?_
  refine Ex_iadd dX8_number_19 rfl ?_
  refine Ex_inv 2 dX8_number_20 rfl rfl (Or.inl rfl) rfl rfl rfl rfl w1 rfl rfl rfl (Ex_post (x8_at W (by omega)) ?_)
  rintro _ _ ⟨rfl, e0⟩
  obtain rfl := Eq.symm e0
  refine Ex_iadd dX8_number_23 rfl ?_
  refine Ex_bipush dX8_number_24 rfl (by decide) ?_
  refine Ex_isub dX8_number_26 rfl ?_
  refine Ex_istore_n (L2 := [_, _, _, _, _]) dX8_number_27 rfl rfl rfl ?_
  refine Ex_iinc (L2 := [_, _, _, _, _]) dX8_number_28 rfl rfl rfl ?_
  refine Ex_goto (t := 5) dX8_number_31 rfl ?_
  refine Ex_iload dX8_number_5 rfl rfl ?_
  refine Ex_iload_n dX8_number_7 rfl rfl ?_
  refine Ex_icmp_ge (t := 34) dX8_number_8 rfl rfl (by omega) (fun c8 => ?_) (fun c8 => absurd c8 (by omega))
  refine Ex_iload_n dX8_number_34 rfl rfl ?_
  refine Ex_iret dX8_number_35 rfl rfl ?_
  exact ⟨ri (by rw [show p + 0 = p by omega]; omega), rfl⟩

theorem x8_number2 {E : am_E} {d : Nat} {h : Hp} {a : Nat} {so : Int} {xs : List Int} {p : Int}  (W : RowAt h a so xs) (hp : 0 ≤ p ∧ p ≤ 1000) : Ex E (d + 3) mX8_number 0 [.ref a, .int (i32 p), .int (i32 2), .retAddr 0, .retAddr 0] [] h (fun r1 h1 => r1 = some (.int (i32 ((gx xs p - 48) * 10 + gx xs (p + 1) - 48))) ∧ h1 = h) := by
  obtain ⟨w1, w2, w3, w4, w5⟩ := id W
  refine Ex_iconst dX8_number_0 rfl ?_
  refine Ex_istore_n (L2 := [_, _, _, _, _]) dX8_number_1 rfl rfl rfl ?_
  refine Ex_iconst dX8_number_2 rfl ?_
  refine Ex_istore (L2 := [_, _, _, _, _]) dX8_number_3 rfl rfl rfl ?_
  refine Ex_iload dX8_number_5 rfl rfl ?_
  refine Ex_iload_n dX8_number_7 rfl rfl ?_
  refine Ex_icmp_ge (t := 34) dX8_number_8 rfl rfl (by omega) (fun c8 => absurd c8 (by omega)) (fun c8 => ?_)
  refine Ex_iload_n dX8_number_11 rfl rfl ?_
  refine Ex_bipush dX8_number_12 rfl (by decide) ?_
  refine Ex_imul dX8_number_14 rfl ?_
  refine Ex_aload_n dX8_number_15 rfl rfl ?_
  refine Ex_iload_n dX8_number_16 rfl rfl ?_
  refine Ex_iload dX8_number_17 rfl rfl ?_
  refine Ex_iadd dX8_number_19 rfl ?_
  refine Ex_inv 2 dX8_number_20 rfl rfl (Or.inl rfl) rfl rfl rfl rfl w1 rfl rfl rfl (Ex_post (x8_at W (by omega)) ?_)
  rintro _ _ ⟨rfl, e0⟩
  obtain rfl := Eq.symm e0
  refine Ex_iadd dX8_number_23 rfl ?_
  refine Ex_bipush dX8_number_24 rfl (by decide) ?_
  refine Ex_isub dX8_number_26 rfl ?_
  refine Ex_istore_n (L2 := [_, _, _, _, _]) dX8_number_27 rfl rfl rfl ?_
  refine Ex_iinc (L2 := [_, _, _, _, _]) dX8_number_28 rfl rfl rfl ?_
  refine Ex_goto (t := 5) dX8_number_31 rfl ?_
  refine Ex_iload dX8_number_5 rfl rfl ?_
  refine Ex_iload_n dX8_number_7 rfl rfl ?_
  refine Ex_icmp_ge (t := 34) dX8_number_8 rfl rfl (by omega) (fun c8 => absurd c8 (by omega)) (fun c8 => ?_)
  refine Ex_iload_n dX8_number_11 rfl rfl ?_
  refine Ex_bipush dX8_number_12 rfl (by decide) ?_
  refine Ex_imul dX8_number_14 rfl ?_
  refine Ex_aload_n dX8_number_15 rfl rfl ?_
  refine Ex_iload_n dX8_number_16 rfl rfl ?_
  refine Ex_iload dX8_number_17 rfl rfl ?_
  refine Ex_iadd dX8_number_19 rfl ?_
  refine Ex_inv 2 dX8_number_20 rfl rfl (Or.inl rfl) rfl rfl rfl rfl w1 rfl rfl rfl (Ex_post (x8_at W (by omega)) ?_)
  rintro _ _ ⟨rfl, e0⟩
  obtain rfl := Eq.symm e0
  refine Ex_iadd dX8_number_23 rfl ?_
  refine Ex_bipush dX8_number_24 rfl (by decide) ?_
  refine Ex_isub dX8_number_26 rfl ?_
  refine Ex_istore_n (L2 := [_, _, _, _, _]) dX8_number_27 rfl rfl rfl ?_
  refine Ex_iinc (L2 := [_, _, _, _, _]) dX8_number_28 rfl rfl rfl ?_
  refine Ex_goto (t := 5) dX8_number_31 rfl ?_
  refine Ex_iload dX8_number_5 rfl rfl ?_
  refine Ex_iload_n dX8_number_7 rfl rfl ?_
  refine Ex_icmp_ge (t := 34) dX8_number_8 rfl rfl (by omega) (fun c8 => ?_) (fun c8 => absurd c8 (by omega))
  refine Ex_iload_n dX8_number_34 rfl rfl ?_
  refine Ex_iret dX8_number_35 rfl rfl ?_
  exact ⟨ri (by rw [show p + 0 = p by omega, show p + (0 + 1) = p + 1 by omega]; omega), rfl⟩
theorem x8_misshapenAt_l {E : am_E} {d : Nat} {h : Hp} {a : Nat} {so : Int} {xs : List Int}  (W : RowAt h a so xs)  : ∀ (k : Nat) (i : Nat) (due : Int) (v3 : Value), i + k = xs.length → -1 ≤ due ∧ due ≤ 4 → Ex E (d + 1) mX8_misshapenAt 4 [.ref a, .int (i32 due), .int (i32 (i : Int)), v3] [] h (fun r1 h1 => r1 = some (.int (i32 (msh xs i due k))) ∧ h1 = h) := by
  obtain ⟨w1, w2, w3, w4, w5⟩ := id W
  intro k
  induction k with
  | zero =>
    intro i due v3 hk hd
    refine Ex_iload_n dX8_misshapenAt_4 rfl rfl ?_
    refine Ex_aload_n dX8_misshapenAt_5 rfl rfl ?_
    refine Ex_getf dX8_misshapenAt_6 rfl (by first | exact w1 | exact w2) rfl rfl rfl ?_
    refine Ex_alen (n := (xs.length : Int)) dX8_misshapenAt_9 rfl (by first | exact w1 | exact w2) (by omega) (by rw [ia_len]) ?_
    refine Ex_icmp_ge (t := 76) dX8_misshapenAt_10 rfl rfl (by omega) (fun c10 => ?_) (fun c10 => absurd c10 (by omega))
    refine Ex_iload_n dX8_misshapenAt_76 rfl rfl ?_
    refine Ex_iconst dX8_misshapenAt_77 rfl ?_
    refine Ex_icmp_ne (t := 93) dX8_misshapenAt_78 rfl rfl (by omega) (fun c78 => ?_) (fun c78 => ?_)
    · refine Ex_aload_n dX8_misshapenAt_93 rfl rfl ?_
      refine Ex_getf dX8_misshapenAt_94 rfl (by first | exact w1 | exact w2) rfl rfl rfl ?_
      refine Ex_alen (n := (xs.length : Int)) dX8_misshapenAt_97 rfl (by first | exact w1 | exact w2) (by omega) (by rw [ia_len]) ?_
      refine Ex_iret dX8_misshapenAt_98 rfl rfl ?_
      exact ⟨ri (by simp only [msh]; first | rw [if_pos (by omega)] | rw [if_neg (by omega)]), rfl⟩
    · refine Ex_aload_n dX8_misshapenAt_81 rfl rfl ?_
      refine Ex_getf dX8_misshapenAt_82 rfl (by first | exact w1 | exact w2) rfl rfl rfl ?_
      refine Ex_alen (n := (xs.length : Int)) dX8_misshapenAt_85 rfl (by first | exact w1 | exact w2) (by omega) (by rw [ia_len]) ?_
      refine Ex_if_le (t := 93) dX8_misshapenAt_86 rfl rfl (by omega) (fun c86 => ?_) (fun c86 => ?_)
      · refine Ex_aload_n dX8_misshapenAt_93 rfl rfl ?_
        refine Ex_getf dX8_misshapenAt_94 rfl (by first | exact w1 | exact w2) rfl rfl rfl ?_
        refine Ex_alen (n := (xs.length : Int)) dX8_misshapenAt_97 rfl (by first | exact w1 | exact w2) (by omega) (by rw [ia_len]) ?_
        refine Ex_iret dX8_misshapenAt_98 rfl rfl ?_
        exact ⟨ri (by simp only [msh]; first | rw [if_pos (by omega)] | rw [if_neg (by omega)]), rfl⟩
      · refine Ex_iconst dX8_misshapenAt_89 rfl ?_
        refine Ex_goto (t := 98) dX8_misshapenAt_90 rfl ?_
        refine Ex_iret dX8_misshapenAt_98 rfl rfl ?_
        exact ⟨ri (by simp only [msh]; first | rw [if_pos (by omega)] | rw [if_neg (by omega)]), rfl⟩
  | succ k ih =>
    intro i due v3 hk hd
    have hgx := w5 (xs.getD i 0) (by rw [List.getD_eq_getElem?_getD, List.getElem?_eq_getElem (by omega)]; exact List.getElem_mem _)
    have hdb := dB_r (xs.getD i 0)
    rcases (show (due = -1 ∧ dB (xs.getD i 0) = -1) ∨ (due = -1 ∧ dB (xs.getD i 0) ≠ -1) ∨ (0 < due ∧ (48 ≤ xs.getD i 0 ∧ xs.getD i 0 ≤ 57)) ∨ (0 < due ∧ ¬ (48 ≤ xs.getD i 0 ∧ xs.getD i 0 ≤ 57)) ∨ (due = 0 ∧ xs.getD i 0 = 59) ∨ (due = 0 ∧ xs.getD i 0 ≠ 59) by omega) with ⟨q1, q2⟩ | ⟨q1, q2⟩ | ⟨q1, q2⟩ | ⟨q1, q2⟩ | ⟨q1, q2⟩ | ⟨q1, q2⟩
    · refine Ex_iload_n dX8_misshapenAt_4 rfl rfl ?_
      refine Ex_aload_n dX8_misshapenAt_5 rfl rfl ?_
      refine Ex_getf dX8_misshapenAt_6 rfl (by first | exact w1 | exact w2) rfl rfl rfl ?_
      refine Ex_alen (n := (xs.length : Int)) dX8_misshapenAt_9 rfl (by first | exact w1 | exact w2) (by omega) (by rw [ia_len]) ?_
      refine Ex_icmp_ge (t := 76) dX8_misshapenAt_10 rfl rfl (by omega) (fun c10 => absurd c10 (by omega)) (fun c10 => ?_)
      refine Ex_aload_n dX8_misshapenAt_13 rfl rfl ?_
      refine Ex_getf dX8_misshapenAt_14 rfl (by first | exact w1 | exact w2) rfl rfl rfl ?_
      refine Ex_iload_n dX8_misshapenAt_17 rfl rfl ?_
      refine Ex_iald dX8_misshapenAt_18 rfl (by first | exact w1 | exact w2) (by omega) (show (ia xs)[((i : Nat) : Int).toNat]? = some (.int (i32 (xs.getD i 0))) from ia_get (by omega)) ?_
      refine Ex_istore_n (L2 := [_, _, _, _]) dX8_misshapenAt_19 rfl rfl rfl ?_
      refine Ex_iload_n dX8_misshapenAt_20 rfl rfl ?_
      refine Ex_iconst dX8_misshapenAt_21 rfl ?_
      refine Ex_icmp_ne (t := 37) dX8_misshapenAt_22 rfl rfl (by omega) (fun c22 => absurd c22 (by omega)) (fun c22 => ?_)
      refine Ex_iload_n dX8_misshapenAt_25 rfl rfl ?_
      refine Ex_stat 0 dX8_misshapenAt_26 rfl rfl (Or.inl rfl) rfl rfl rfl rfl rfl rfl (Ex_post (x8_digitsBehind hgx) ?_)
      rintro _ _ ⟨rfl, e0⟩
      obtain rfl := Eq.symm e0
      refine Ex_istore_n (L2 := [_, _, _, _]) dX8_misshapenAt_29 rfl rfl rfl ?_
      refine Ex_iload_n dX8_misshapenAt_30 rfl rfl ?_
      refine Ex_iconst dX8_misshapenAt_31 rfl ?_
      refine Ex_icmp_ne (t := 70) dX8_misshapenAt_32 rfl rfl (by omega) (fun c32 => absurd c32 (by omega)) (fun c32 => ?_)
      refine Ex_iload_n dX8_misshapenAt_35 rfl rfl ?_
      refine Ex_iret dX8_misshapenAt_36 rfl rfl ?_
      exact ⟨ri (by simp only [msh]; rw [if_pos q1, if_pos q2]), rfl⟩
    · refine Ex_iload_n dX8_misshapenAt_4 rfl rfl ?_
      refine Ex_aload_n dX8_misshapenAt_5 rfl rfl ?_
      refine Ex_getf dX8_misshapenAt_6 rfl (by first | exact w1 | exact w2) rfl rfl rfl ?_
      refine Ex_alen (n := (xs.length : Int)) dX8_misshapenAt_9 rfl (by first | exact w1 | exact w2) (by omega) (by rw [ia_len]) ?_
      refine Ex_icmp_ge (t := 76) dX8_misshapenAt_10 rfl rfl (by omega) (fun c10 => absurd c10 (by omega)) (fun c10 => ?_)
      refine Ex_aload_n dX8_misshapenAt_13 rfl rfl ?_
      refine Ex_getf dX8_misshapenAt_14 rfl (by first | exact w1 | exact w2) rfl rfl rfl ?_
      refine Ex_iload_n dX8_misshapenAt_17 rfl rfl ?_
      refine Ex_iald dX8_misshapenAt_18 rfl (by first | exact w1 | exact w2) (by omega) (show (ia xs)[((i : Nat) : Int).toNat]? = some (.int (i32 (xs.getD i 0))) from ia_get (by omega)) ?_
      refine Ex_istore_n (L2 := [_, _, _, _]) dX8_misshapenAt_19 rfl rfl rfl ?_
      refine Ex_iload_n dX8_misshapenAt_20 rfl rfl ?_
      refine Ex_iconst dX8_misshapenAt_21 rfl ?_
      refine Ex_icmp_ne (t := 37) dX8_misshapenAt_22 rfl rfl (by omega) (fun c22 => absurd c22 (by omega)) (fun c22 => ?_)
      refine Ex_iload_n dX8_misshapenAt_25 rfl rfl ?_
      refine Ex_stat 0 dX8_misshapenAt_26 rfl rfl (Or.inl rfl) rfl rfl rfl rfl rfl rfl (Ex_post (x8_digitsBehind hgx) ?_)
      rintro _ _ ⟨rfl, e0⟩
      obtain rfl := Eq.symm e0
      refine Ex_istore_n (L2 := [_, _, _, _]) dX8_misshapenAt_29 rfl rfl rfl ?_
      refine Ex_iload_n dX8_misshapenAt_30 rfl rfl ?_
      refine Ex_iconst dX8_misshapenAt_31 rfl ?_
      refine Ex_icmp_ne (t := 70) dX8_misshapenAt_32 rfl rfl (by omega) (fun c32 => ?_) (fun c32 => absurd c32 (by omega))
      refine Ex_iinc (L2 := [_, _, _, _]) dX8_misshapenAt_70 rfl rfl rfl ?_
      refine Ex_goto (t := 4) dX8_misshapenAt_73 rfl ?_
      simp only [msh]
      rw [if_pos q1, if_neg q2]
      exact ih (i + 1) _ _ (by omega) (by omega)
    · refine Ex_iload_n dX8_misshapenAt_4 rfl rfl ?_
      refine Ex_aload_n dX8_misshapenAt_5 rfl rfl ?_
      refine Ex_getf dX8_misshapenAt_6 rfl (by first | exact w1 | exact w2) rfl rfl rfl ?_
      refine Ex_alen (n := (xs.length : Int)) dX8_misshapenAt_9 rfl (by first | exact w1 | exact w2) (by omega) (by rw [ia_len]) ?_
      refine Ex_icmp_ge (t := 76) dX8_misshapenAt_10 rfl rfl (by omega) (fun c10 => absurd c10 (by omega)) (fun c10 => ?_)
      refine Ex_aload_n dX8_misshapenAt_13 rfl rfl ?_
      refine Ex_getf dX8_misshapenAt_14 rfl (by first | exact w1 | exact w2) rfl rfl rfl ?_
      refine Ex_iload_n dX8_misshapenAt_17 rfl rfl ?_
      refine Ex_iald dX8_misshapenAt_18 rfl (by first | exact w1 | exact w2) (by omega) (show (ia xs)[((i : Nat) : Int).toNat]? = some (.int (i32 (xs.getD i 0))) from ia_get (by omega)) ?_
      refine Ex_istore_n (L2 := [_, _, _, _]) dX8_misshapenAt_19 rfl rfl rfl ?_
      refine Ex_iload_n dX8_misshapenAt_20 rfl rfl ?_
      refine Ex_iconst dX8_misshapenAt_21 rfl ?_
      refine Ex_icmp_ne (t := 37) dX8_misshapenAt_22 rfl rfl (by omega) (fun c22 => ?_) (fun c22 => absurd c22 (by omega))
      refine Ex_iload_n dX8_misshapenAt_37 rfl rfl ?_
      refine Ex_if_le (t := 60) dX8_misshapenAt_38 rfl rfl (by omega) (fun c38 => absurd c38 (by omega)) (fun c38 => ?_)
      refine Ex_iload_n dX8_misshapenAt_41 rfl rfl ?_
      refine Ex_bipush dX8_misshapenAt_42 rfl (by decide) ?_
      refine Ex_bipush dX8_misshapenAt_44 rfl (by decide) ?_
      refine Ex_stat 1 dX8_misshapenAt_46 rfl rfl (Or.inr rfl) rfl rfl rfl rfl rfl rfl (Ex_post (x11_within (by omega)) ?_)
      rintro _ _ ⟨rfl, e0⟩
      obtain rfl := Eq.symm e0
      refine Ex_if_ne (t := 54) dX8_misshapenAt_49 rfl rfl (by omega) (fun c49 => ?_) (fun c49 => absurd c49 (by omega))
      refine Ex_iinc (L2 := [_, _, _, _]) dX8_misshapenAt_54 rfl rfl rfl ?_
      refine Ex_goto (t := 70) dX8_misshapenAt_57 rfl ?_
      refine Ex_iinc (L2 := [_, _, _, _]) dX8_misshapenAt_70 rfl rfl rfl ?_
      refine Ex_goto (t := 4) dX8_misshapenAt_73 rfl ?_
      simp only [msh]
      rw [if_neg (by omega), if_pos q1, if_pos q2]
      exact ih (i + 1) _ _ (by omega) (by omega)
    · refine Ex_iload_n dX8_misshapenAt_4 rfl rfl ?_
      refine Ex_aload_n dX8_misshapenAt_5 rfl rfl ?_
      refine Ex_getf dX8_misshapenAt_6 rfl (by first | exact w1 | exact w2) rfl rfl rfl ?_
      refine Ex_alen (n := (xs.length : Int)) dX8_misshapenAt_9 rfl (by first | exact w1 | exact w2) (by omega) (by rw [ia_len]) ?_
      refine Ex_icmp_ge (t := 76) dX8_misshapenAt_10 rfl rfl (by omega) (fun c10 => absurd c10 (by omega)) (fun c10 => ?_)
      refine Ex_aload_n dX8_misshapenAt_13 rfl rfl ?_
      refine Ex_getf dX8_misshapenAt_14 rfl (by first | exact w1 | exact w2) rfl rfl rfl ?_
      refine Ex_iload_n dX8_misshapenAt_17 rfl rfl ?_
      refine Ex_iald dX8_misshapenAt_18 rfl (by first | exact w1 | exact w2) (by omega) (show (ia xs)[((i : Nat) : Int).toNat]? = some (.int (i32 (xs.getD i 0))) from ia_get (by omega)) ?_
      refine Ex_istore_n (L2 := [_, _, _, _]) dX8_misshapenAt_19 rfl rfl rfl ?_
      refine Ex_iload_n dX8_misshapenAt_20 rfl rfl ?_
      refine Ex_iconst dX8_misshapenAt_21 rfl ?_
      refine Ex_icmp_ne (t := 37) dX8_misshapenAt_22 rfl rfl (by omega) (fun c22 => ?_) (fun c22 => absurd c22 (by omega))
      refine Ex_iload_n dX8_misshapenAt_37 rfl rfl ?_
      refine Ex_if_le (t := 60) dX8_misshapenAt_38 rfl rfl (by omega) (fun c38 => absurd c38 (by omega)) (fun c38 => ?_)
      refine Ex_iload_n dX8_misshapenAt_41 rfl rfl ?_
      refine Ex_bipush dX8_misshapenAt_42 rfl (by decide) ?_
      refine Ex_bipush dX8_misshapenAt_44 rfl (by decide) ?_
      refine Ex_stat 1 dX8_misshapenAt_46 rfl rfl (Or.inr rfl) rfl rfl rfl rfl rfl rfl (Ex_post (x11_within (by omega)) ?_)
      rintro _ _ ⟨rfl, e0⟩
      obtain rfl := Eq.symm e0
      refine Ex_if_ne (t := 54) dX8_misshapenAt_49 rfl rfl (by omega) (fun c49 => absurd c49 (by omega)) (fun c49 => ?_)
      refine Ex_iload_n dX8_misshapenAt_52 rfl rfl ?_
      refine Ex_iret dX8_misshapenAt_53 rfl rfl ?_
      exact ⟨ri (by simp only [msh]; rw [if_neg (by omega), if_pos q1, if_neg q2]), rfl⟩
    · refine Ex_iload_n dX8_misshapenAt_4 rfl rfl ?_
      refine Ex_aload_n dX8_misshapenAt_5 rfl rfl ?_
      refine Ex_getf dX8_misshapenAt_6 rfl (by first | exact w1 | exact w2) rfl rfl rfl ?_
      refine Ex_alen (n := (xs.length : Int)) dX8_misshapenAt_9 rfl (by first | exact w1 | exact w2) (by omega) (by rw [ia_len]) ?_
      refine Ex_icmp_ge (t := 76) dX8_misshapenAt_10 rfl rfl (by omega) (fun c10 => absurd c10 (by omega)) (fun c10 => ?_)
      refine Ex_aload_n dX8_misshapenAt_13 rfl rfl ?_
      refine Ex_getf dX8_misshapenAt_14 rfl (by first | exact w1 | exact w2) rfl rfl rfl ?_
      refine Ex_iload_n dX8_misshapenAt_17 rfl rfl ?_
      refine Ex_iald dX8_misshapenAt_18 rfl (by first | exact w1 | exact w2) (by omega) (show (ia xs)[((i : Nat) : Int).toNat]? = some (.int (i32 (xs.getD i 0))) from ia_get (by omega)) ?_
      refine Ex_istore_n (L2 := [_, _, _, _]) dX8_misshapenAt_19 rfl rfl rfl ?_
      refine Ex_iload_n dX8_misshapenAt_20 rfl rfl ?_
      refine Ex_iconst dX8_misshapenAt_21 rfl ?_
      refine Ex_icmp_ne (t := 37) dX8_misshapenAt_22 rfl rfl (by omega) (fun c22 => ?_) (fun c22 => absurd c22 (by omega))
      refine Ex_iload_n dX8_misshapenAt_37 rfl rfl ?_
      refine Ex_if_le (t := 60) dX8_misshapenAt_38 rfl rfl (by omega) (fun c38 => ?_) (fun c38 => absurd c38 (by omega))
      refine Ex_iload_n dX8_misshapenAt_60 rfl rfl ?_
      refine Ex_bipush dX8_misshapenAt_61 rfl (by decide) ?_
      refine Ex_icmp_eq (t := 68) dX8_misshapenAt_63 rfl rfl (by omega) (fun c63 => ?_) (fun c63 => absurd c63 (by omega))
      refine Ex_iconst dX8_misshapenAt_68 rfl ?_
      refine Ex_istore_n (L2 := [_, _, _, _]) dX8_misshapenAt_69 rfl rfl rfl ?_
      refine Ex_iinc (L2 := [_, _, _, _]) dX8_misshapenAt_70 rfl rfl rfl ?_
      refine Ex_goto (t := 4) dX8_misshapenAt_73 rfl ?_
      simp only [msh]
      rw [if_neg (by omega), if_neg (by omega), if_pos q2]
      exact ih (i + 1) _ _ (by omega) (by omega)
    · refine Ex_iload_n dX8_misshapenAt_4 rfl rfl ?_
      refine Ex_aload_n dX8_misshapenAt_5 rfl rfl ?_
      refine Ex_getf dX8_misshapenAt_6 rfl (by first | exact w1 | exact w2) rfl rfl rfl ?_
      refine Ex_alen (n := (xs.length : Int)) dX8_misshapenAt_9 rfl (by first | exact w1 | exact w2) (by omega) (by rw [ia_len]) ?_
      refine Ex_icmp_ge (t := 76) dX8_misshapenAt_10 rfl rfl (by omega) (fun c10 => absurd c10 (by omega)) (fun c10 => ?_)
      refine Ex_aload_n dX8_misshapenAt_13 rfl rfl ?_
      refine Ex_getf dX8_misshapenAt_14 rfl (by first | exact w1 | exact w2) rfl rfl rfl ?_
      refine Ex_iload_n dX8_misshapenAt_17 rfl rfl ?_
      refine Ex_iald dX8_misshapenAt_18 rfl (by first | exact w1 | exact w2) (by omega) (show (ia xs)[((i : Nat) : Int).toNat]? = some (.int (i32 (xs.getD i 0))) from ia_get (by omega)) ?_
      refine Ex_istore_n (L2 := [_, _, _, _]) dX8_misshapenAt_19 rfl rfl rfl ?_
      refine Ex_iload_n dX8_misshapenAt_20 rfl rfl ?_
      refine Ex_iconst dX8_misshapenAt_21 rfl ?_
      refine Ex_icmp_ne (t := 37) dX8_misshapenAt_22 rfl rfl (by omega) (fun c22 => ?_) (fun c22 => absurd c22 (by omega))
      refine Ex_iload_n dX8_misshapenAt_37 rfl rfl ?_
      refine Ex_if_le (t := 60) dX8_misshapenAt_38 rfl rfl (by omega) (fun c38 => ?_) (fun c38 => absurd c38 (by omega))
      refine Ex_iload_n dX8_misshapenAt_60 rfl rfl ?_
      refine Ex_bipush dX8_misshapenAt_61 rfl (by decide) ?_
      refine Ex_icmp_eq (t := 68) dX8_misshapenAt_63 rfl rfl (by omega) (fun c63 => absurd c63 (by omega)) (fun c63 => ?_)
      refine Ex_iload_n dX8_misshapenAt_66 rfl rfl ?_
      refine Ex_iret dX8_misshapenAt_67 rfl rfl ?_
      exact ⟨ri (by simp only [msh]; rw [if_neg (by omega), if_neg (by omega), if_neg q2]), rfl⟩

theorem x8_misshapenAt {E : am_E} {d : Nat} {h : Hp} {a : Nat} {so : Int} {xs : List Int}  (W : RowAt h a so xs)  : Ex E (d + 1) mX8_misshapenAt 0 [.ref a, .retAddr 0, .retAddr 0, .retAddr 0] [] h (fun r1 h1 => r1 = some (.int (i32 (msh xs 0 (-1) xs.length))) ∧ h1 = h) := by
  refine Ex_iconst dX8_misshapenAt_0 rfl ?_
  refine Ex_istore_n (L2 := [_, _, _, _]) dX8_misshapenAt_1 rfl rfl rfl ?_
  refine Ex_iconst dX8_misshapenAt_2 rfl ?_
  refine Ex_istore_n (L2 := [_, _, _, _]) dX8_misshapenAt_3 rfl rfl rfl ?_
  exact x8_misshapenAt_l W xs.length 0 (-1) _ (by omega) (by omega)
