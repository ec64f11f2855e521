/-! the reference: small methods (by program: wip/whole/spec_ra.py) -/
theorem lcmp_lt {a b : Int} : lcmpI a b < 0 ↔ a < b := by unfold lcmpI; repeat' split
                                                          all_goals omega
theorem lcmp_gt {a b : Int} : 0 < lcmpI a b ↔ b < a := by unfold lcmpI; repeat' split
                                                          all_goals omega
theorem lcmp_r {a b : Int} : -1 ≤ lcmpI a b ∧ lcmpI a b ≤ 1 := by unfold lcmpI; repeat' split
                                                                  all_goals omega
def hl (v b : Int) : Int := if v < 0 then 0 else if b < v then b else v
theorem hl_cl (v : Int) : hl v 20 = sp_cl v := by unfold hl sp_cl; repeat' split
                                                  all_goals omega
theorem x12_in {E : am_E} {d : Nat} {h : Hp} {a b c : Int}  (ha : -9223372036854775808 ≤ a ∧ a ≤ 9223372036854775807) (hb : -9223372036854775808 ≤ b ∧ b ≤ 9223372036854775807) (hc : -9223372036854775808 ≤ c ∧ c ≤ 9223372036854775807)  : Ex E d mX12_in 0 [.long (i64 a), .retAddr 0, .long (i64 b), .retAddr 0, .long (i64 c), .retAddr 0] [] h (fun r1 h1 => r1 = some (.int (i32 (if b ≤ a ∧ a ≤ c then 1 else 0))) ∧ h1 = h) := by
  have l1 := lcmp_r (a := a) (b := b)
  have l2 := lcmp_r (a := a) (b := c)
  have l3 := lcmp_lt (a := a) (b := b)
  have l4 := lcmp_gt (a := a) (b := c)
  refine Ex_lload_n dX12_in_0 rfl rfl ?_
  refine Ex_lload_n dX12_in_1 rfl rfl ?_
  refine Ex_lcmp dX12_in_2 rfl (by omega) ?_
  refine Ex_if_lt (t := 17) dX12_in_3 rfl rfl (by omega) (fun c3 => ?_) (fun c3 => ?_)
  · refine Ex_iconst dX12_in_17 rfl ?_
    refine Ex_iret dX12_in_18 rfl rfl ?_
    first | exact ⟨by rw [if_pos (by omega)], rfl⟩ | exact ⟨by rw [if_neg (by omega)], rfl⟩
  · refine Ex_lload_n dX12_in_6 rfl rfl ?_
    refine Ex_lload dX12_in_7 rfl rfl ?_
    refine Ex_lcmp dX12_in_9 rfl (by omega) ?_
    refine Ex_if_gt (t := 17) dX12_in_10 rfl rfl (by omega) (fun c10 => ?_) (fun c10 => ?_)
    · refine Ex_iconst dX12_in_17 rfl ?_
      refine Ex_iret dX12_in_18 rfl rfl ?_
      first | exact ⟨by rw [if_pos (by omega)], rfl⟩ | exact ⟨by rw [if_neg (by omega)], rfl⟩
    · refine Ex_iconst dX12_in_13 rfl ?_
      refine Ex_goto (t := 18) dX12_in_14 rfl ?_
      refine Ex_iret dX12_in_18 rfl rfl ?_
      first | exact ⟨by rw [if_pos (by omega)], rfl⟩ | exact ⟨by rw [if_neg (by omega)], rfl⟩
theorem x12_held {E : am_E} {d : Nat} {h : Hp} {v b : Int}  (hv : (-2147483648 ≤ v ∧ v ≤ 2147483647)) (hb : (-2147483648 ≤ b ∧ b ≤ 2147483647))  : Ex E d mX12_held 0 [.int (i32 v), .int (i32 b)] [] h (fun r1 h1 => r1 = some (.int (i32 (hl v b))) ∧ h1 = h) := by
  refine Ex_iload_n dX12_held_0 rfl rfl ?_
  refine Ex_if_ge (t := 8) dX12_held_1 rfl rfl (by omega) (fun c1 => ?_) (fun c1 => ?_)
  · refine Ex_iload_n dX12_held_8 rfl rfl ?_
    refine Ex_iload_n dX12_held_9 rfl rfl ?_
    refine Ex_icmp_le (t := 17) dX12_held_10 rfl rfl (by omega) (fun c10 => ?_) (fun c10 => ?_)
    · refine Ex_iload_n dX12_held_17 rfl rfl ?_
      refine Ex_iret dX12_held_18 rfl rfl ?_
      first | exact ⟨ri (by unfold hl; rw [if_pos (by omega)]), rfl⟩ | exact ⟨ri (by unfold hl; rw [if_neg (by omega), if_pos (by omega)]), rfl⟩ | exact ⟨ri (by unfold hl; rw [if_neg (by omega), if_neg (by omega)]), rfl⟩
    · refine Ex_iload_n dX12_held_13 rfl rfl ?_
      refine Ex_goto (t := 18) dX12_held_14 rfl ?_
      refine Ex_iret dX12_held_18 rfl rfl ?_
      first | exact ⟨ri (by unfold hl; rw [if_pos (by omega)]), rfl⟩ | exact ⟨ri (by unfold hl; rw [if_neg (by omega), if_pos (by omega)]), rfl⟩ | exact ⟨ri (by unfold hl; rw [if_neg (by omega), if_neg (by omega)]), rfl⟩
  · refine Ex_iconst dX12_held_4 rfl ?_
    refine Ex_goto (t := 18) dX12_held_5 rfl ?_
    refine Ex_iret dX12_held_18 rfl rfl ?_
    first | exact ⟨ri (by unfold hl; rw [if_pos (by omega)]), rfl⟩ | exact ⟨ri (by unfold hl; rw [if_neg (by omega), if_pos (by omega)]), rfl⟩ | exact ⟨ri (by unfold hl; rw [if_neg (by omega), if_neg (by omega)]), rfl⟩
theorem x12_isChild {E : am_E} {d : Nat} {h : Hp} {m n : Nat} {g K F T S C : Nat → Int} {ρ : Nat → Nat → Int} {kp : Value} {c : Int}  (M : MAt h m g K F T S C ρ kp) (hn : g 0 = (n : Int)) (hn6 : n ≤ 6) (hc : (-2147483648 ≤ c ∧ c ≤ 2147483647))  : Ex E (d + 1) mX12_isChild 0 [.ref m, .int (i32 c)] [] h (fun r1 h1 => r1 = some (.int (i32 (if 0 ≤ c ∧ c < (n : Int) then 1 else 0))) ∧ h1 = h) := by
  refine Ex_iload_n dX12_isChild_0 rfl rfl ?_
  refine Ex_i2l dX12_isChild_1 rfl (by omega) ?_
  refine Ex_lconst (z := 0) dX12_isChild_2 rfl (by decide) ?_
  refine Ex_aload_n dX12_isChild_3 rfl rfl ?_
  refine Ex_getf dX12_isChild_4 rfl (ma0 M) rfl rfl rfl ?_
  refine Ex_iconst dX12_isChild_7 rfl ?_
  refine Ex_isub dX12_isChild_8 rfl ?_
  refine Ex_i2l dX12_isChild_9 rfl (by omega) ?_
  refine Ex_stat 0 dX12_isChild_10 rfl rfl (Or.inl rfl) rfl rfl rfl rfl rfl rfl (Ex_post (x12_in (by omega) (by omega) (by omega)) ?_)
  rintro _ _ ⟨rfl, e0⟩
  obtain rfl := Eq.symm e0
  refine Ex_iret dX12_isChild_13 rfl (by (repeat' split) <;> rfl) ?_
  exact ⟨ri (by have e9 : (0 ≤ c ∧ c ≤ g 0 - 1) ↔ (0 ≤ c ∧ c < (n : Int)) := (by omega); simp only [e9]), rfl⟩
theorem x12_holdsBy {E : am_E} {d : Nat} {h : Hp} {k f : Int}  (hk : 0 ≤ k ∧ k ≤ 7) (hf : 0 ≤ f ∧ f ≤ 9)  : Ex E d mX12_holdsBy 0 [.int (i32 k), .int (i32 f)] [] h (fun r1 h1 => r1 = some (.int (i32 (sp_holds k f))) ∧ h1 = h) := by
  refine Ex_iload_n dX12_holdsBy_0 rfl rfl ?_
  rcases (show k = 0 ∨ k = 1 ∨ k = 2 ∨ k = 3 ∨ k = 4 ∨ k = 5 ∨ k = 6 ∨ (k < 0 ∨ 6 < k) by omega) with e | e | e | e | e | e | e | e
  · rw [e]
    refine Ex_tabIn (off := 43) (t := 44) (0) dX12_holdsBy_1 rfl (by omega) (by omega) rfl rfl ?_
    refine Ex_iconst dX12_holdsBy_44 rfl ?_
    refine Ex_iret dX12_holdsBy_45 rfl rfl ?_
    exact ⟨ri (by first | rfl | (unfold sp_holds; simp; done) | (unfold sp_holds; simp; omega) | (unfold sp_holds; rw [if_neg (by omega), if_neg (by omega), if_neg (by omega), if_neg (by omega)])), rfl⟩
  · rw [e]
    refine Ex_tabIn (off := 53) (t := 54) (1) dX12_holdsBy_1 rfl (by omega) (by omega) rfl rfl ?_
    refine Ex_iconst dX12_holdsBy_54 rfl ?_
    refine Ex_iret dX12_holdsBy_55 rfl rfl ?_
    exact ⟨ri (by first | rfl | (unfold sp_holds; simp; done) | (unfold sp_holds; simp; omega) | (unfold sp_holds; rw [if_neg (by omega), if_neg (by omega), if_neg (by omega), if_neg (by omega)])), rfl⟩
  · rw [e]
    refine Ex_tabIn (off := 45) (t := 46) (2) dX12_holdsBy_1 rfl (by omega) (by omega) rfl rfl ?_
    refine Ex_iconst dX12_holdsBy_46 rfl ?_
    refine Ex_iret dX12_holdsBy_47 rfl rfl ?_
    exact ⟨ri (by first | rfl | (unfold sp_holds; simp; done) | (unfold sp_holds; simp; omega) | (unfold sp_holds; rw [if_neg (by omega), if_neg (by omega), if_neg (by omega), if_neg (by omega)])), rfl⟩
  · rw [e]
    refine Ex_tabIn (off := 45) (t := 46) (3) dX12_holdsBy_1 rfl (by omega) (by omega) rfl rfl ?_
    refine Ex_iconst dX12_holdsBy_46 rfl ?_
    refine Ex_iret dX12_holdsBy_47 rfl rfl ?_
    exact ⟨ri (by first | rfl | (unfold sp_holds; simp; done) | (unfold sp_holds; simp; omega) | (unfold sp_holds; rw [if_neg (by omega), if_neg (by omega), if_neg (by omega), if_neg (by omega)])), rfl⟩
  · rw [e]
    refine Ex_tabIn (off := 53) (t := 54) (4) dX12_holdsBy_1 rfl (by omega) (by omega) rfl rfl ?_
    refine Ex_iconst dX12_holdsBy_54 rfl ?_
    refine Ex_iret dX12_holdsBy_55 rfl rfl ?_
    exact ⟨ri (by first | rfl | (unfold sp_holds; simp; done) | (unfold sp_holds; simp; omega) | (unfold sp_holds; rw [if_neg (by omega), if_neg (by omega), if_neg (by omega), if_neg (by omega)])), rfl⟩
  · rw [e]
    refine Ex_tabIn (off := 53) (t := 54) (5) dX12_holdsBy_1 rfl (by omega) (by omega) rfl rfl ?_
    refine Ex_iconst dX12_holdsBy_54 rfl ?_
    refine Ex_iret dX12_holdsBy_55 rfl rfl ?_
    exact ⟨ri (by first | rfl | (unfold sp_holds; simp; done) | (unfold sp_holds; simp; omega) | (unfold sp_holds; rw [if_neg (by omega), if_neg (by omega), if_neg (by omega), if_neg (by omega)])), rfl⟩
  · rw [e]
    refine Ex_tabIn (off := 47) (t := 48) (6) dX12_holdsBy_1 rfl (by omega) (by omega) rfl rfl ?_
    refine Ex_iconst dX12_holdsBy_48 rfl ?_
    refine Ex_iload_n dX12_holdsBy_49 rfl rfl ?_
    refine Ex_iconst dX12_holdsBy_50 rfl ?_
    refine Ex_idiv dX12_holdsBy_51 rfl (by omega) (by omega) ?_
    refine Ex_iadd dX12_holdsBy_52 rfl ?_
    refine Ex_iret dX12_holdsBy_53 rfl rfl ?_
    exact ⟨ri (by first | rfl | (unfold sp_holds; simp; done) | (unfold sp_holds; simp; omega) | (unfold sp_holds; rw [if_neg (by omega), if_neg (by omega), if_neg (by omega), if_neg (by omega)])), rfl⟩
  · refine Ex_tabOut (t := 54) dX12_holdsBy_1 rfl (by omega) e ?_
    refine Ex_iconst dX12_holdsBy_54 rfl ?_
    refine Ex_iret dX12_holdsBy_55 rfl rfl ?_
    exact ⟨ri (by first | rfl | (unfold sp_holds; simp; done) | (unfold sp_holds; simp; omega) | (unfold sp_holds; rw [if_neg (by omega), if_neg (by omega), if_neg (by omega), if_neg (by omega)])), rfl⟩
theorem x12_holdsOf {E : am_E} {d : Nat} {h : Hp} {m n : Nat} {g K F T S C : Nat → Int} {ρ : Nat → Nat → Int} {kp : Value} {c : Nat}  (M : MAt h m g K F T S C ρ kp) (hn6 : n ≤ 6) (hK : ∀ i, i < n → (0 ≤ K i ∧ K i ≤ 7) ∧ (0 ≤ F i ∧ F i ≤ 9)) (hc : c < n)  : Ex E (d + 1) mX12_holdsOf 0 [.ref m, .int (i32 (c : Int))] [] h (fun r1 h1 => r1 = some (.int (i32 (sp_holds (K c) (F c)))) ∧ h1 = h) := by
  have hKc := hK c hc
  refine Ex_aload_n dX12_holdsOf_0 rfl rfl ?_
  refine Ex_getf dX12_holdsOf_1 rfl (ma0 M) rfl rfl rfl ?_
  refine Ex_iload_n dX12_holdsOf_4 rfl rfl ?_
  refine Ex_iald12 dX12_holdsOf_5 rfl (ma1 M) rfl (by omega) ?_
  refine Ex_aload_n dX12_holdsOf_6 rfl rfl ?_
  refine Ex_getf dX12_holdsOf_7 rfl (ma0 M) rfl rfl rfl ?_
  refine Ex_iload_n dX12_holdsOf_10 rfl rfl ?_
  refine Ex_iald12 dX12_holdsOf_11 rfl (ma2 M) rfl (by omega) ?_
  refine Ex_stat 0 dX12_holdsOf_12 rfl rfl (Or.inl rfl) rfl rfl rfl rfl rfl rfl (Ex_post (x12_holdsBy hKc.1 hKc.2) ?_)
  rintro _ _ ⟨rfl, e0⟩
  obtain rfl := Eq.symm e0
  refine Ex_iret dX12_holdsOf_15 rfl rfl ?_
  exact ⟨rfl, rfl⟩
theorem x12_needsAt {E : am_E} {d : Nat} {h : Hp} {m n : Nat} {g K F T S C : Nat → Int} {ρ : Nat → Nat → Int} {kp : Value} {c : Nat} {s : Int}  (M : MAt h m g K F T S C ρ kp) (hn6 : n ≤ 6) (hK : ∀ i, i < n → (0 ≤ K i ∧ K i ≤ 7) ∧ (0 ≤ F i ∧ F i ≤ 9)) (hc : c < n) (hs : 0 ≤ s ∧ s ≤ 7)  : Ex E d mX12_needsAt 0 [.ref m, .int (i32 (c : Int)), .int (i32 s)] [] h (fun r1 h1 => r1 = some (.int (i32 (sp_needs (K c) (F c) s))) ∧ h1 = h) := by
  have hKc := hK c hc
  refine Ex_aload_n dX12_needsAt_0 rfl rfl ?_
  refine Ex_getf dX12_needsAt_1 rfl (ma0 M) rfl rfl rfl ?_
  refine Ex_iload_n dX12_needsAt_4 rfl rfl ?_
  refine Ex_iald12 dX12_needsAt_5 rfl (ma1 M) rfl (by omega) ?_
  rcases (show K c = 0 ∨ K c = 1 ∨ K c = 2 ∨ K c = 3 ∨ K c = 4 ∨ K c = 5 ∨ K c = 6 ∨ K c = 7 ∨ (K c < 0 ∨ 7 < K c) by omega) with e | e | e | e | e | e | e | e | e
  · rw [e]
    refine Ex_tabIn (off := 46) (t := 52) (0) dX12_needsAt_6 rfl (by omega) (by omega) rfl rfl ?_
    refine Ex_iload_n dX12_needsAt_52 rfl rfl ?_
    refine Ex_iconst dX12_needsAt_53 rfl ?_
    refine Ex_iadd dX12_needsAt_54 rfl ?_
    refine Ex_iret dX12_needsAt_55 rfl rfl ?_
    exact ⟨ri (by first | rfl | (unfold sp_needs; simp; done) | (unfold sp_needs; simp; omega) | (unfold sp_needs; rw [if_neg (by omega), if_neg (by omega), if_neg (by omega), if_neg (by omega), if_neg (by omega)]) | (unfold sp_needs; rw [if_neg (by omega), if_neg (by omega), if_neg (by omega), if_neg (by omega)])), rfl⟩
  · rw [e]
    refine Ex_tabIn (off := 83) (t := 89) (1) dX12_needsAt_6 rfl (by omega) (by omega) rfl rfl ?_
    refine Ex_iload_n dX12_needsAt_89 rfl rfl ?_
    refine Ex_iconst dX12_needsAt_90 rfl ?_
    refine Ex_iadd dX12_needsAt_91 rfl ?_
    refine Ex_iret dX12_needsAt_92 rfl rfl ?_
    exact ⟨ri (by first | rfl | (unfold sp_needs; simp; done) | (unfold sp_needs; simp; omega) | (unfold sp_needs; rw [if_neg (by omega), if_neg (by omega), if_neg (by omega), if_neg (by omega), if_neg (by omega)]) | (unfold sp_needs; rw [if_neg (by omega), if_neg (by omega), if_neg (by omega), if_neg (by omega)])), rfl⟩
  · rw [e]
    refine Ex_tabIn (off := 50) (t := 56) (2) dX12_needsAt_6 rfl (by omega) (by omega) rfl rfl ?_
    refine Ex_iconst dX12_needsAt_56 rfl ?_
    refine Ex_iload_n dX12_needsAt_57 rfl rfl ?_
    refine Ex_iconst dX12_needsAt_58 rfl ?_
    refine Ex_iadd dX12_needsAt_59 rfl ?_
    refine Ex_imul dX12_needsAt_60 rfl ?_
    refine Ex_iret dX12_needsAt_61 rfl rfl ?_
    exact ⟨ri (by first | rfl | (unfold sp_needs; simp; done) | (unfold sp_needs; simp; omega) | (unfold sp_needs; rw [if_neg (by omega), if_neg (by omega), if_neg (by omega), if_neg (by omega), if_neg (by omega)]) | (unfold sp_needs; rw [if_neg (by omega), if_neg (by omega), if_neg (by omega), if_neg (by omega)])), rfl⟩
  · rw [e]
    refine Ex_tabIn (off := 56) (t := 62) (3) dX12_needsAt_6 rfl (by omega) (by omega) rfl rfl ?_
    refine Ex_iload_n dX12_needsAt_62 rfl rfl ?_
    refine Ex_iconst dX12_needsAt_63 rfl ?_
    refine Ex_iadd dX12_needsAt_64 rfl ?_
    refine Ex_aload_n dX12_needsAt_65 rfl rfl ?_
    refine Ex_getf dX12_needsAt_66 rfl (ma0 M) rfl rfl rfl ?_
    refine Ex_iload_n dX12_needsAt_69 rfl rfl ?_
    refine Ex_iald12 dX12_needsAt_70 rfl (ma2 M) rfl (by omega) ?_
    refine Ex_iconst dX12_needsAt_71 rfl ?_
    refine Ex_idiv dX12_needsAt_72 rfl (by omega) (by omega) ?_
    refine Ex_iadd dX12_needsAt_73 rfl ?_
    refine Ex_iret dX12_needsAt_74 rfl rfl ?_
    exact ⟨ri (by first | rfl | (unfold sp_needs; simp; done) | (unfold sp_needs; simp; omega) | (unfold sp_needs; rw [if_neg (by omega), if_neg (by omega), if_neg (by omega), if_neg (by omega), if_neg (by omega)]) | (unfold sp_needs; rw [if_neg (by omega), if_neg (by omega), if_neg (by omega), if_neg (by omega)])), rfl⟩
  · rw [e]
    refine Ex_tabIn (off := 83) (t := 89) (4) dX12_needsAt_6 rfl (by omega) (by omega) rfl rfl ?_
    refine Ex_iload_n dX12_needsAt_89 rfl rfl ?_
    refine Ex_iconst dX12_needsAt_90 rfl ?_
    refine Ex_iadd dX12_needsAt_91 rfl ?_
    refine Ex_iret dX12_needsAt_92 rfl rfl ?_
    exact ⟨ri (by first | rfl | (unfold sp_needs; simp; done) | (unfold sp_needs; simp; omega) | (unfold sp_needs; rw [if_neg (by omega), if_neg (by omega), if_neg (by omega), if_neg (by omega), if_neg (by omega)]) | (unfold sp_needs; rw [if_neg (by omega), if_neg (by omega), if_neg (by omega), if_neg (by omega)])), rfl⟩
  · rw [e]
    refine Ex_tabIn (off := 83) (t := 89) (5) dX12_needsAt_6 rfl (by omega) (by omega) rfl rfl ?_
    refine Ex_iload_n dX12_needsAt_89 rfl rfl ?_
    refine Ex_iconst dX12_needsAt_90 rfl ?_
    refine Ex_iadd dX12_needsAt_91 rfl ?_
    refine Ex_iret dX12_needsAt_92 rfl rfl ?_
    exact ⟨ri (by first | rfl | (unfold sp_needs; simp; done) | (unfold sp_needs; simp; omega) | (unfold sp_needs; rw [if_neg (by omega), if_neg (by omega), if_neg (by omega), if_neg (by omega), if_neg (by omega)]) | (unfold sp_needs; rw [if_neg (by omega), if_neg (by omega), if_neg (by omega), if_neg (by omega)])), rfl⟩
  · rw [e]
    refine Ex_tabIn (off := 69) (t := 75) (6) dX12_needsAt_6 rfl (by omega) (by omega) rfl rfl ?_
    refine Ex_iconst dX12_needsAt_75 rfl ?_
    refine Ex_iload_n dX12_needsAt_76 rfl rfl ?_
    refine Ex_iconst dX12_needsAt_77 rfl ?_
    refine Ex_iadd dX12_needsAt_78 rfl ?_
    refine Ex_imul dX12_needsAt_79 rfl ?_
    refine Ex_iconst dX12_needsAt_80 rfl ?_
    refine Ex_isub dX12_needsAt_81 rfl ?_
    refine Ex_iret dX12_needsAt_82 rfl rfl ?_
    exact ⟨ri (by first | rfl | (unfold sp_needs; simp; done) | (unfold sp_needs; simp; omega) | (unfold sp_needs; rw [if_neg (by omega), if_neg (by omega), if_neg (by omega), if_neg (by omega), if_neg (by omega)]) | (unfold sp_needs; rw [if_neg (by omega), if_neg (by omega), if_neg (by omega), if_neg (by omega)])), rfl⟩
  · rw [e]
    refine Ex_tabIn (off := 77) (t := 83) (7) dX12_needsAt_6 rfl (by omega) (by omega) rfl rfl ?_
    refine Ex_iload_n dX12_needsAt_83 rfl rfl ?_
    refine Ex_iconst dX12_needsAt_84 rfl ?_
    refine Ex_iadd dX12_needsAt_85 rfl ?_
    refine Ex_iconst dX12_needsAt_86 rfl ?_
    refine Ex_idiv dX12_needsAt_87 rfl (by omega) (by omega) ?_
    refine Ex_iret dX12_needsAt_88 rfl rfl ?_
    exact ⟨ri (by first | rfl | (unfold sp_needs; simp; done) | (unfold sp_needs; simp; omega) | (unfold sp_needs; rw [if_neg (by omega), if_neg (by omega), if_neg (by omega), if_neg (by omega), if_neg (by omega)]) | (unfold sp_needs; rw [if_neg (by omega), if_neg (by omega), if_neg (by omega), if_neg (by omega)])), rfl⟩
  · refine Ex_tabOut (t := 89) dX12_needsAt_6 rfl (by omega) e ?_
    refine Ex_iload_n dX12_needsAt_89 rfl rfl ?_
    refine Ex_iconst dX12_needsAt_90 rfl ?_
    refine Ex_iadd dX12_needsAt_91 rfl ?_
    refine Ex_iret dX12_needsAt_92 rfl rfl ?_
    exact ⟨ri (by first | rfl | (unfold sp_needs; simp; done) | (unfold sp_needs; simp; omega) | (unfold sp_needs; rw [if_neg (by omega), if_neg (by omega), if_neg (by omega), if_neg (by omega), if_neg (by omega)]) | (unfold sp_needs; rw [if_neg (by omega), if_neg (by omega), if_neg (by omega), if_neg (by omega)])), rfl⟩
theorem x12_frightOf {E : am_E} {d : Nat} {h : Hp} {m n : Nat} {g K F T S C : Nat → Int} {ρ : Nat → Nat → Int} {kp : Value} {c : Nat}  (M : MAt h m g K F T S C ρ kp) (hn6 : n ≤ 6) (hK : ∀ i, i < n → (0 ≤ K i ∧ K i ≤ 7) ∧ (0 ≤ F i ∧ F i ≤ 9)) (hc : c < n)  : Ex E d mX12_frightOf 0 [.ref m, .int (i32 (c : Int))] [] h (fun r1 h1 => r1 = some (.int (i32 (sp_fright (K c) (F c)))) ∧ h1 = h) := by
  have hKc := hK c hc
  refine Ex_aload_n dX12_frightOf_0 rfl rfl ?_
  refine Ex_getf dX12_frightOf_1 rfl (ma0 M) rfl rfl rfl ?_
  refine Ex_iload_n dX12_frightOf_4 rfl rfl ?_
  refine Ex_iald12 dX12_frightOf_5 rfl (ma1 M) rfl (by omega) ?_
  rcases (show K c = 0 ∨ K c = 1 ∨ K c = 2 ∨ K c = 3 ∨ K c = 4 ∨ K c = 5 ∨ K c = 6 ∨ (K c < 0 ∨ 6 < K c) by omega) with e | e | e | e | e | e | e | e
  · rw [e]
    refine Ex_tabIn (off := 42) (t := 48) (0) dX12_frightOf_6 rfl (by omega) (by omega) rfl rfl ?_
    refine Ex_iconst dX12_frightOf_48 rfl ?_
    refine Ex_iret dX12_frightOf_49 rfl rfl ?_
    exact ⟨ri (by first | rfl | (unfold sp_fright; simp; done) | (unfold sp_fright; simp; omega) | (unfold sp_fright; rw [if_neg (by omega), if_neg (by omega), if_neg (by omega), if_neg (by omega), if_neg (by omega)]) | (unfold sp_fright; rw [if_neg (by omega), if_neg (by omega), if_neg (by omega), if_neg (by omega)])), rfl⟩
  · rw [e]
    refine Ex_tabIn (off := 70) (t := 76) (1) dX12_frightOf_6 rfl (by omega) (by omega) rfl rfl ?_
    refine Ex_iconst dX12_frightOf_76 rfl ?_
    refine Ex_iret dX12_frightOf_77 rfl rfl ?_
    exact ⟨ri (by first | rfl | (unfold sp_fright; simp; done) | (unfold sp_fright; simp; omega) | (unfold sp_fright; rw [if_neg (by omega), if_neg (by omega), if_neg (by omega), if_neg (by omega), if_neg (by omega)]) | (unfold sp_fright; rw [if_neg (by omega), if_neg (by omega), if_neg (by omega), if_neg (by omega)])), rfl⟩
  · rw [e]
    refine Ex_tabIn (off := 44) (t := 50) (2) dX12_frightOf_6 rfl (by omega) (by omega) rfl rfl ?_
    refine Ex_iconst dX12_frightOf_50 rfl ?_
    refine Ex_aload_n dX12_frightOf_51 rfl rfl ?_
    refine Ex_getf dX12_frightOf_52 rfl (ma0 M) rfl rfl rfl ?_
    refine Ex_iload_n dX12_frightOf_55 rfl rfl ?_
    refine Ex_iald12 dX12_frightOf_56 rfl (ma2 M) rfl (by omega) ?_
    refine Ex_iconst dX12_frightOf_57 rfl ?_
    refine Ex_idiv dX12_frightOf_58 rfl (by omega) (by omega) ?_
    refine Ex_iadd dX12_frightOf_59 rfl ?_
    refine Ex_iret dX12_frightOf_60 rfl rfl ?_
    exact ⟨ri (by first | rfl | (unfold sp_fright; simp; done) | (unfold sp_fright; simp; omega) | (unfold sp_fright; rw [if_neg (by omega), if_neg (by omega), if_neg (by omega), if_neg (by omega), if_neg (by omega)]) | (unfold sp_fright; rw [if_neg (by omega), if_neg (by omega), if_neg (by omega), if_neg (by omega)])), rfl⟩
  · rw [e]
    refine Ex_tabIn (off := 42) (t := 48) (3) dX12_frightOf_6 rfl (by omega) (by omega) rfl rfl ?_
    refine Ex_iconst dX12_frightOf_48 rfl ?_
    refine Ex_iret dX12_frightOf_49 rfl rfl ?_
    exact ⟨ri (by first | rfl | (unfold sp_fright; simp; done) | (unfold sp_fright; simp; omega) | (unfold sp_fright; rw [if_neg (by omega), if_neg (by omega), if_neg (by omega), if_neg (by omega), if_neg (by omega)]) | (unfold sp_fright; rw [if_neg (by omega), if_neg (by omega), if_neg (by omega), if_neg (by omega)])), rfl⟩
  · rw [e]
    refine Ex_tabIn (off := 55) (t := 61) (4) dX12_frightOf_6 rfl (by omega) (by omega) rfl rfl ?_
    refine Ex_iconst dX12_frightOf_61 rfl ?_
    refine Ex_iret dX12_frightOf_62 rfl rfl ?_
    exact ⟨ri (by first | rfl | (unfold sp_fright; simp; done) | (unfold sp_fright; simp; omega) | (unfold sp_fright; rw [if_neg (by omega), if_neg (by omega), if_neg (by omega), if_neg (by omega), if_neg (by omega)]) | (unfold sp_fright; rw [if_neg (by omega), if_neg (by omega), if_neg (by omega), if_neg (by omega)])), rfl⟩
  · rw [e]
    refine Ex_tabIn (off := 70) (t := 76) (5) dX12_frightOf_6 rfl (by omega) (by omega) rfl rfl ?_
    refine Ex_iconst dX12_frightOf_76 rfl ?_
    refine Ex_iret dX12_frightOf_77 rfl rfl ?_
    exact ⟨ri (by first | rfl | (unfold sp_fright; simp; done) | (unfold sp_fright; simp; omega) | (unfold sp_fright; rw [if_neg (by omega), if_neg (by omega), if_neg (by omega), if_neg (by omega), if_neg (by omega)]) | (unfold sp_fright; rw [if_neg (by omega), if_neg (by omega), if_neg (by omega), if_neg (by omega)])), rfl⟩
  · rw [e]
    refine Ex_tabIn (off := 57) (t := 63) (6) dX12_frightOf_6 rfl (by omega) (by omega) rfl rfl ?_
    refine Ex_iconst dX12_frightOf_63 rfl ?_
    refine Ex_iconst dX12_frightOf_64 rfl ?_
    refine Ex_aload_n dX12_frightOf_65 rfl rfl ?_
    refine Ex_getf dX12_frightOf_66 rfl (ma0 M) rfl rfl rfl ?_
    refine Ex_iload_n dX12_frightOf_69 rfl rfl ?_
    refine Ex_iald12 dX12_frightOf_70 rfl (ma2 M) rfl (by omega) ?_
    refine Ex_iconst dX12_frightOf_71 rfl ?_
    refine Ex_idiv dX12_frightOf_72 rfl (by omega) (by omega) ?_
    refine Ex_iadd dX12_frightOf_73 rfl ?_
    refine Ex_imul dX12_frightOf_74 rfl ?_
    refine Ex_iret dX12_frightOf_75 rfl rfl ?_
    exact ⟨ri (by first | rfl | (unfold sp_fright; simp; done) | (unfold sp_fright; simp; omega) | (unfold sp_fright; rw [if_neg (by omega), if_neg (by omega), if_neg (by omega), if_neg (by omega), if_neg (by omega)]) | (unfold sp_fright; rw [if_neg (by omega), if_neg (by omega), if_neg (by omega), if_neg (by omega)])), rfl⟩
  · refine Ex_tabOut (t := 76) dX12_frightOf_6 rfl (by omega) e ?_
    refine Ex_iconst dX12_frightOf_76 rfl ?_
    refine Ex_iret dX12_frightOf_77 rfl rfl ?_
    exact ⟨ri (by first | rfl | (unfold sp_fright; simp; done) | (unfold sp_fright; simp; omega) | (unfold sp_fright; rw [if_neg (by omega), if_neg (by omega), if_neg (by omega), if_neg (by omega), if_neg (by omega)]) | (unfold sp_fright; rw [if_neg (by omega), if_neg (by omega), if_neg (by omega), if_neg (by omega)])), rfl⟩
theorem x12_bearsOf {E : am_E} {d : Nat} {h : Hp} {m n : Nat} {g K F T S C : Nat → Int} {ρ : Nat → Nat → Int} {kp : Value} {c : Nat}  (M : MAt h m g K F T S C ρ kp) (hn6 : n ≤ 6) (hK : ∀ i, i < n → (0 ≤ K i ∧ K i ≤ 7) ∧ (0 ≤ F i ∧ F i ≤ 9)) (hc : c < n)  : Ex E d mX12_bearsOf 0 [.ref m, .int (i32 (c : Int))] [] h (fun r1 h1 => r1 = some (.int (i32 (sp_bears (K c) (F c)))) ∧ h1 = h) := by
  have hKc := hK c hc
  refine Ex_aload_n dX12_bearsOf_0 rfl rfl ?_
  refine Ex_getf dX12_bearsOf_1 rfl (ma0 M) rfl rfl rfl ?_
  refine Ex_iload_n dX12_bearsOf_4 rfl rfl ?_
  refine Ex_iald12 dX12_bearsOf_5 rfl (ma1 M) rfl (by omega) ?_
  rcases (show K c = 0 ∨ K c = 1 ∨ K c = 2 ∨ K c = 3 ∨ K c = 4 ∨ K c = 5 ∨ K c = 6 ∨ K c = 7 ∨ (K c < 0 ∨ 7 < K c) by omega) with e | e | e | e | e | e | e | e | e
  · rw [e]
    refine Ex_tabIn (off := 46) (t := 52) (0) dX12_bearsOf_6 rfl (by omega) (by omega) rfl rfl ?_
    refine Ex_iconst dX12_bearsOf_52 rfl ?_
    refine Ex_iret dX12_bearsOf_53 rfl rfl ?_
    exact ⟨ri (by first | rfl | (unfold sp_bears; simp; done) | (unfold sp_bears; simp; omega) | (unfold sp_bears; rw [if_neg (by omega), if_neg (by omega), if_neg (by omega), if_neg (by omega), if_neg (by omega)]) | (unfold sp_bears; rw [if_neg (by omega), if_neg (by omega), if_neg (by omega), if_neg (by omega)])), rfl⟩
  · rw [e]
    refine Ex_tabIn (off := 53) (t := 59) (1) dX12_bearsOf_6 rfl (by omega) (by omega) rfl rfl ?_
    refine Ex_iconst dX12_bearsOf_59 rfl ?_
    refine Ex_aload_n dX12_bearsOf_60 rfl rfl ?_
    refine Ex_getf dX12_bearsOf_61 rfl (ma0 M) rfl rfl rfl ?_
    refine Ex_iload_n dX12_bearsOf_64 rfl rfl ?_
    refine Ex_iald12 dX12_bearsOf_65 rfl (ma2 M) rfl (by omega) ?_
    refine Ex_iadd dX12_bearsOf_66 rfl ?_
    refine Ex_iret dX12_bearsOf_67 rfl rfl ?_
    exact ⟨ri (by first | rfl | (unfold sp_bears; simp; done) | (unfold sp_bears; simp; omega) | (unfold sp_bears; rw [if_neg (by omega), if_neg (by omega), if_neg (by omega), if_neg (by omega), if_neg (by omega)]) | (unfold sp_bears; rw [if_neg (by omega), if_neg (by omega), if_neg (by omega), if_neg (by omega)])), rfl⟩
  · rw [e]
    refine Ex_tabIn (off := 48) (t := 54) (2) dX12_bearsOf_6 rfl (by omega) (by omega) rfl rfl ?_
    refine Ex_iconst dX12_bearsOf_54 rfl ?_
    refine Ex_iret dX12_bearsOf_55 rfl rfl ?_
    exact ⟨ri (by first | rfl | (unfold sp_bears; simp; done) | (unfold sp_bears; simp; omega) | (unfold sp_bears; rw [if_neg (by omega), if_neg (by omega), if_neg (by omega), if_neg (by omega), if_neg (by omega)]) | (unfold sp_bears; rw [if_neg (by omega), if_neg (by omega), if_neg (by omega), if_neg (by omega)])), rfl⟩
  · rw [e]
    refine Ex_tabIn (off := 46) (t := 52) (3) dX12_bearsOf_6 rfl (by omega) (by omega) rfl rfl ?_
    refine Ex_iconst dX12_bearsOf_52 rfl ?_
    refine Ex_iret dX12_bearsOf_53 rfl rfl ?_
    exact ⟨ri (by first | rfl | (unfold sp_bears; simp; done) | (unfold sp_bears; simp; omega) | (unfold sp_bears; rw [if_neg (by omega), if_neg (by omega), if_neg (by omega), if_neg (by omega), if_neg (by omega)]) | (unfold sp_bears; rw [if_neg (by omega), if_neg (by omega), if_neg (by omega), if_neg (by omega)])), rfl⟩
  · rw [e]
    refine Ex_tabIn (off := 53) (t := 59) (4) dX12_bearsOf_6 rfl (by omega) (by omega) rfl rfl ?_
    refine Ex_iconst dX12_bearsOf_59 rfl ?_
    refine Ex_aload_n dX12_bearsOf_60 rfl rfl ?_
    refine Ex_getf dX12_bearsOf_61 rfl (ma0 M) rfl rfl rfl ?_
    refine Ex_iload_n dX12_bearsOf_64 rfl rfl ?_
    refine Ex_iald12 dX12_bearsOf_65 rfl (ma2 M) rfl (by omega) ?_
    refine Ex_iadd dX12_bearsOf_66 rfl ?_
    refine Ex_iret dX12_bearsOf_67 rfl rfl ?_
    exact ⟨ri (by first | rfl | (unfold sp_bears; simp; done) | (unfold sp_bears; simp; omega) | (unfold sp_bears; rw [if_neg (by omega), if_neg (by omega), if_neg (by omega), if_neg (by omega), if_neg (by omega)]) | (unfold sp_bears; rw [if_neg (by omega), if_neg (by omega), if_neg (by omega), if_neg (by omega)])), rfl⟩
  · rw [e]
    refine Ex_tabIn (off := 53) (t := 59) (5) dX12_bearsOf_6 rfl (by omega) (by omega) rfl rfl ?_
    refine Ex_iconst dX12_bearsOf_59 rfl ?_
    refine Ex_aload_n dX12_bearsOf_60 rfl rfl ?_
    refine Ex_getf dX12_bearsOf_61 rfl (ma0 M) rfl rfl rfl ?_
    refine Ex_iload_n dX12_bearsOf_64 rfl rfl ?_
    refine Ex_iald12 dX12_bearsOf_65 rfl (ma2 M) rfl (by omega) ?_
    refine Ex_iadd dX12_bearsOf_66 rfl ?_
    refine Ex_iret dX12_bearsOf_67 rfl rfl ?_
    exact ⟨ri (by first | rfl | (unfold sp_bears; simp; done) | (unfold sp_bears; simp; omega) | (unfold sp_bears; rw [if_neg (by omega), if_neg (by omega), if_neg (by omega), if_neg (by omega), if_neg (by omega)]) | (unfold sp_bears; rw [if_neg (by omega), if_neg (by omega), if_neg (by omega), if_neg (by omega)])), rfl⟩
  · rw [e]
    refine Ex_tabIn (off := 48) (t := 54) (6) dX12_bearsOf_6 rfl (by omega) (by omega) rfl rfl ?_
    refine Ex_iconst dX12_bearsOf_54 rfl ?_
    refine Ex_iret dX12_bearsOf_55 rfl rfl ?_
    exact ⟨ri (by first | rfl | (unfold sp_bears; simp; done) | (unfold sp_bears; simp; omega) | (unfold sp_bears; rw [if_neg (by omega), if_neg (by omega), if_neg (by omega), if_neg (by omega), if_neg (by omega)]) | (unfold sp_bears; rw [if_neg (by omega), if_neg (by omega), if_neg (by omega), if_neg (by omega)])), rfl⟩
  · rw [e]
    refine Ex_tabIn (off := 50) (t := 56) (7) dX12_bearsOf_6 rfl (by omega) (by omega) rfl rfl ?_
    refine Ex_bipush dX12_bearsOf_56 rfl (by decide) ?_
    refine Ex_iret dX12_bearsOf_58 rfl rfl ?_
    exact ⟨ri (by first | rfl | (unfold sp_bears; simp; done) | (unfold sp_bears; simp; omega) | (unfold sp_bears; rw [if_neg (by omega), if_neg (by omega), if_neg (by omega), if_neg (by omega), if_neg (by omega)]) | (unfold sp_bears; rw [if_neg (by omega), if_neg (by omega), if_neg (by omega), if_neg (by omega)])), rfl⟩
  · refine Ex_tabOut (t := 59) dX12_bearsOf_6 rfl (by omega) e ?_
    refine Ex_iconst dX12_bearsOf_59 rfl ?_
    refine Ex_aload_n dX12_bearsOf_60 rfl rfl ?_
    refine Ex_getf dX12_bearsOf_61 rfl (ma0 M) rfl rfl rfl ?_
    refine Ex_iload_n dX12_bearsOf_64 rfl rfl ?_
    refine Ex_iald12 dX12_bearsOf_65 rfl (ma2 M) rfl (by omega) ?_
    refine Ex_iadd dX12_bearsOf_66 rfl ?_
    refine Ex_iret dX12_bearsOf_67 rfl rfl ?_
    exact ⟨ri (by first | rfl | (unfold sp_bears; simp; done) | (unfold sp_bears; simp; omega) | (unfold sp_bears; rw [if_neg (by omega), if_neg (by omega), if_neg (by omega), if_neg (by omega), if_neg (by omega)]) | (unfold sp_bears; rw [if_neg (by omega), if_neg (by omega), if_neg (by omega), if_neg (by omega)])), rfl⟩
theorem x12_passesOf {E : am_E} {d : Nat} {h : Hp} {m n : Nat} {g K F T S C : Nat → Int} {ρ : Nat → Nat → Int} {kp : Value} {c : Nat}  (M : MAt h m g K F T S C ρ kp) (hn6 : n ≤ 6) (hK : ∀ i, i < n → (0 ≤ K i ∧ K i ≤ 7) ∧ (0 ≤ F i ∧ F i ≤ 9)) (hc : c < n)  : Ex E d mX12_passesOf 0 [.ref m, .int (i32 (c : Int))] [] h (fun r1 h1 => r1 = some (.int (i32 (sp_passes (K c)))) ∧ h1 = h) := by
  have hKc := hK c hc
  refine Ex_aload_n dX12_passesOf_0 rfl rfl ?_
  refine Ex_getf dX12_passesOf_1 rfl (ma0 M) rfl rfl rfl ?_
  refine Ex_iload_n dX12_passesOf_4 rfl rfl ?_
  refine Ex_iald12 dX12_passesOf_5 rfl (ma1 M) rfl (by omega) ?_
  rcases (show K c = 2 ∨ K c = 3 ∨ K c = 4 ∨ K c = 5 ∨ K c = 6 ∨ (K c < 2 ∨ 6 < K c) by omega) with e | e | e | e | e | e
  · rw [e]
    refine Ex_tabIn (off := 34) (t := 40) (2) dX12_passesOf_6 rfl (by omega) (by omega) rfl rfl ?_
    refine Ex_iconst dX12_passesOf_40 rfl ?_
    refine Ex_iret dX12_passesOf_41 rfl rfl ?_
    exact ⟨ri (by first | rfl | (unfold sp_passes; simp; done) | (unfold sp_passes; simp; omega) | (unfold sp_passes; rw [if_neg (by omega), if_neg (by omega), if_neg (by omega), if_neg (by omega), if_neg (by omega)]) | (unfold sp_passes; rw [if_neg (by omega), if_neg (by omega), if_neg (by omega), if_neg (by omega)])), rfl⟩
  · rw [e]
    refine Ex_tabIn (off := 40) (t := 46) (3) dX12_passesOf_6 rfl (by omega) (by omega) rfl rfl ?_
    refine Ex_iconst dX12_passesOf_46 rfl ?_
    refine Ex_iret dX12_passesOf_47 rfl rfl ?_
    exact ⟨ri (by first | rfl | (unfold sp_passes; simp; done) | (unfold sp_passes; simp; omega) | (unfold sp_passes; rw [if_neg (by omega), if_neg (by omega), if_neg (by omega), if_neg (by omega), if_neg (by omega)]) | (unfold sp_passes; rw [if_neg (by omega), if_neg (by omega), if_neg (by omega), if_neg (by omega)])), rfl⟩
  · rw [e]
    refine Ex_tabIn (off := 36) (t := 42) (4) dX12_passesOf_6 rfl (by omega) (by omega) rfl rfl ?_
    refine Ex_iconst dX12_passesOf_42 rfl ?_
    refine Ex_iret dX12_passesOf_43 rfl rfl ?_
    exact ⟨ri (by first | rfl | (unfold sp_passes; simp; done) | (unfold sp_passes; simp; omega) | (unfold sp_passes; rw [if_neg (by omega), if_neg (by omega), if_neg (by omega), if_neg (by omega), if_neg (by omega)]) | (unfold sp_passes; rw [if_neg (by omega), if_neg (by omega), if_neg (by omega), if_neg (by omega)])), rfl⟩
  · rw [e]
    refine Ex_tabIn (off := 38) (t := 44) (5) dX12_passesOf_6 rfl (by omega) (by omega) rfl rfl ?_
    refine Ex_iconst dX12_passesOf_44 rfl ?_
    refine Ex_iret dX12_passesOf_45 rfl rfl ?_
    exact ⟨ri (by first | rfl | (unfold sp_passes; simp; done) | (unfold sp_passes; simp; omega) | (unfold sp_passes; rw [if_neg (by omega), if_neg (by omega), if_neg (by omega), if_neg (by omega), if_neg (by omega)]) | (unfold sp_passes; rw [if_neg (by omega), if_neg (by omega), if_neg (by omega), if_neg (by omega)])), rfl⟩
  · rw [e]
    refine Ex_tabIn (off := 34) (t := 40) (6) dX12_passesOf_6 rfl (by omega) (by omega) rfl rfl ?_
    refine Ex_iconst dX12_passesOf_40 rfl ?_
    refine Ex_iret dX12_passesOf_41 rfl rfl ?_
    exact ⟨ri (by first | rfl | (unfold sp_passes; simp; done) | (unfold sp_passes; simp; omega) | (unfold sp_passes; rw [if_neg (by omega), if_neg (by omega), if_neg (by omega), if_neg (by omega), if_neg (by omega)]) | (unfold sp_passes; rw [if_neg (by omega), if_neg (by omega), if_neg (by omega), if_neg (by omega)])), rfl⟩
  · refine Ex_tabOut (t := 46) dX12_passesOf_6 rfl (by omega) e ?_
    refine Ex_iconst dX12_passesOf_46 rfl ?_
    refine Ex_iret dX12_passesOf_47 rfl rfl ?_
    exact ⟨ri (by first | rfl | (unfold sp_passes; simp; done) | (unfold sp_passes; simp; omega) | (unfold sp_passes; rw [if_neg (by omega), if_neg (by omega), if_neg (by omega), if_neg (by omega), if_neg (by omega)]) | (unfold sp_passes; rw [if_neg (by omega), if_neg (by omega), if_neg (by omega), if_neg (by omega)])), rfl⟩
theorem x12_needsOf {E : am_E} {d : Nat} {h : Hp} {m n : Nat} {g K F T S C : Nat → Int} {ρ : Nat → Nat → Int} {kp : Value} {c : Nat}  (M : MAt h m g K F T S C ρ kp) (hn6 : n ≤ 6) (hg : Rng n T S C) (hK : ∀ i, i < n → (0 ≤ K i ∧ K i ≤ 7) ∧ (0 ≤ F i ∧ F i ≤ 9)) (hc : c < n)  : Ex E (d + 1) mX12_needsOf 0 [.ref m, .int (i32 (c : Int))] [] h (fun r1 h1 => r1 = some (.int (i32 (sp_needs (K c) (F c) (S c)))) ∧ h1 = h) := by
  have hgc := hg c hc
  have hKc := hK c hc
  refine Ex_aload_n dX12_needsOf_0 rfl rfl ?_
  refine Ex_iload_n dX12_needsOf_1 rfl rfl ?_
  refine Ex_aload_n dX12_needsOf_2 rfl rfl ?_
  refine Ex_getf dX12_needsOf_3 rfl (ma0 M) rfl rfl rfl ?_
  refine Ex_iload_n dX12_needsOf_6 rfl rfl ?_
  refine Ex_iald12 dX12_needsOf_7 rfl (ma4 M) rfl (by omega) ?_
  refine Ex_inv 2 dX12_needsOf_8 rfl rfl (Or.inl rfl) rfl rfl rfl rfl (ma0 M) rfl rfl rfl (Ex_post (x12_needsAt M hn6 hK hc hgc.2.1) ?_)
  rintro _ _ ⟨rfl, e0⟩
  obtain rfl := Eq.symm e0
  refine Ex_iret dX12_needsOf_11 rfl rfl ?_
  exact ⟨rfl, rfl⟩
theorem x12_isReady {E : am_E} {d : Nat} {h : Hp} {m n : Nat} {g K F T S C : Nat → Int} {ρ : Nat → Nat → Int} {kp : Value} {c : Nat}  (M : MAt h m g K F T S C ρ kp) (hn6 : n ≤ 6) (hg : Rng n T S C) (hK : ∀ i, i < n → (0 ≤ K i ∧ K i ≤ 7) ∧ (0 ≤ F i ∧ F i ≤ 9)) (hc : c < n)  : Ex E (d + 2) mX12_isReady 0 [.ref m, .int (i32 (c : Int))] [] h (fun r1 h1 => r1 = some (.int (i32 (if S c < 7 ∧ sp_needs (K c) (F c) (S c) ≤ T c then 1 else 0))) ∧ h1 = h) := by
  have hgc := hg c hc
  have hKc := hK c hc
  have hnr := sp_needs_r (k := K c) hKc.2 hgc.2.1
  refine Ex_aload_n dX12_isReady_0 rfl rfl ?_
  refine Ex_getf dX12_isReady_1 rfl (ma0 M) rfl rfl rfl ?_
  refine Ex_iload_n dX12_isReady_4 rfl rfl ?_
  refine Ex_iald12 dX12_isReady_5 rfl (ma4 M) rfl (by omega) ?_
  refine Ex_bipush dX12_isReady_6 rfl (by decide) ?_
  refine Ex_icmp_ge (t := 29) dX12_isReady_8 rfl rfl (by omega) (fun c8 => ?_) (fun c8 => ?_)
  · refine Ex_iconst dX12_isReady_29 rfl ?_
    refine Ex_iret dX12_isReady_30 rfl rfl ?_
    first | exact ⟨by rw [if_pos (by omega)], rfl⟩ | exact ⟨by rw [if_neg (by omega)], rfl⟩
  · refine Ex_aload_n dX12_isReady_11 rfl rfl ?_
    refine Ex_getf dX12_isReady_12 rfl (ma0 M) rfl rfl rfl ?_
    refine Ex_iload_n dX12_isReady_15 rfl rfl ?_
    refine Ex_iald12 dX12_isReady_16 rfl (ma3 M) rfl (by omega) ?_
    refine Ex_aload_n dX12_isReady_17 rfl rfl ?_
    refine Ex_iload_n dX12_isReady_18 rfl rfl ?_
    refine Ex_inv 2 dX12_isReady_19 rfl rfl (Or.inl rfl) rfl rfl rfl rfl (ma0 M) rfl rfl rfl (Ex_post (x12_needsOf M hn6 hg hK hc) ?_)
    rintro _ _ ⟨rfl, e0⟩
    obtain rfl := Eq.symm e0
    refine Ex_icmp_lt (t := 29) dX12_isReady_22 rfl rfl (by omega) (fun c22 => ?_) (fun c22 => ?_)
    · refine Ex_iconst dX12_isReady_29 rfl ?_
      refine Ex_iret dX12_isReady_30 rfl rfl ?_
      first | exact ⟨by rw [if_pos (by omega)], rfl⟩ | exact ⟨by rw [if_neg (by omega)], rfl⟩
    · refine Ex_iconst dX12_isReady_25 rfl ?_
      refine Ex_goto (t := 30) dX12_isReady_26 rfl ?_
      refine Ex_iret dX12_isReady_30 rfl rfl ?_
      first | exact ⟨by rw [if_pos (by omega)], rfl⟩ | exact ⟨by rw [if_neg (by omega)], rfl⟩
def gT (n : Nat) (c v : Int) (T : Nat → Int) : Nat → Int := if 0 ≤ c ∧ c < (n : Int) then fu T c.toNat (sp_cl (T c.toNat + v)) else T
theorem gT_ps {n c : Nat} {v : Int} {T : Nat → Int} (hc : c < n) : gT n ((c : Int) + 1) v (gT n ((c : Int) - 1) v T) = psT n c v T := by
  funext j
  unfold gT psT fu
  by_cases h1 : (c : Int) - 1 ≥ 0
  · rw [if_pos (show 0 ≤ (c : Int) - 1 ∧ (c : Int) - 1 < (n : Int) by omega)]
    by_cases h2 : c + 1 < n
    · rw [if_pos (show 0 ≤ (c : Int) + 1 ∧ (c : Int) + 1 < (n : Int) by omega), show ((c : Int) + 1).toNat = c + 1 by omega, show ((c : Int) - 1).toNat = c - 1 by omega]
      by_cases e : j = c + 1
      · subst e; rw [if_pos rfl, if_neg (by omega), if_pos (by omega)]
      · rw [if_neg e]
        by_cases e2 : j = c - 1
        · subst e2; rw [if_pos rfl, if_pos (by omega)]
        · rw [if_neg e2, if_neg (by omega)]
    · rw [if_neg (show ¬ (0 ≤ (c : Int) + 1 ∧ (c : Int) + 1 < (n : Int)) by omega), show ((c : Int) - 1).toNat = c - 1 by omega]
      by_cases e2 : j = c - 1
      · subst e2; rw [if_pos rfl, if_pos (by omega)]
      · rw [if_neg e2, if_neg (by omega)]
  · rw [if_neg (show ¬ (0 ≤ (c : Int) - 1 ∧ (c : Int) - 1 < (n : Int)) by omega)]
    by_cases h2 : c + 1 < n
    · rw [if_pos (show 0 ≤ (c : Int) + 1 ∧ (c : Int) + 1 < (n : Int) by omega), show ((c : Int) + 1).toNat = c + 1 by omega]
      by_cases e : j = c + 1
      · subst e; rw [if_pos rfl, if_pos (by omega)]
      · rw [if_neg e, if_neg (by omega)]
    · rw [if_neg (show ¬ (0 ≤ (c : Int) + 1 ∧ (c : Int) + 1 < (n : Int)) by omega), if_neg (by omega)]
theorem gT_at {n c : Nat} {v : Int} {T : Nat → Int} (hc : c < n) : gT n (c : Int) v T = fu T c (sp_cl (T c + v)) := by
  unfold gT; rw [if_pos (by omega)]; rfl
theorem gT_r {n : Nat} {c v : Int} {T S C : Nat → Int} (hg : Rng n T S C) : Rng n (gT n c v T) S C := by
  intro j hj
  have hj2 := hg j hj
  have := sp_cl_r (T c.toNat + v)
  unfold gT
  split
  · unfold fu
    refine ⟨?_, hj2.2⟩
    split
    · exact this
    · exact hj2.1
  · exact hj2
theorem x12_gains {E : am_E} {d : Nat} {h : Hp} {m n : Nat} {g K F T S C : Nat → Int} {ρ : Nat → Nat → Int} {kp : Value} {c v : Int}  (M : MAt h m g K F T S C ρ kp) (hn : g 0 = (n : Int)) (hn6 : n ≤ 6) (hg : Rng n T S C) (hB : E.2 ≤ m) (hc : (-2147483648 ≤ c ∧ c ≤ 2147483647)) (hv : -1000 ≤ v ∧ v ≤ 1000)  : Ex E (d + 2) mX12_gains 0 [.ref m, .int (i32 c), .int (i32 v)] [] h (fun r1 h1 => r1 = none ∧ MAt h1 m g K F (gT n c v T) S C ρ kp ∧ Fr h h1 m (m + 23)) := by
  by_cases q : 0 ≤ c ∧ c < (n : Int)
  · obtain ⟨c, rfl⟩ := Int.eq_ofNat_of_zero_le q.1
    have hc : c < n := by omega
    have hgc := hg c hc
    refine Ex_aload_n dX12_gains_0 rfl rfl ?_
    refine Ex_iload_n dX12_gains_1 rfl rfl ?_
    refine Ex_inv 2 dX12_gains_2 rfl rfl (Or.inl rfl) rfl rfl rfl rfl (ma0 M) rfl rfl rfl (Ex_post (x12_isChild M hn hn6 (by omega)) ?_)
    rintro _ _ ⟨rfl, e0⟩
    obtain rfl := Eq.symm e0
    refine Ex_if_eq (t := 27) dX12_gains_5 rfl rfl (by omega) (fun c5 => absurd c5 (by omega)) (fun c5 => ?_)
    refine Ex_aload_n dX12_gains_8 rfl rfl ?_
    refine Ex_getf dX12_gains_9 rfl (ma0 M) rfl rfl rfl ?_
    refine Ex_iload_n dX12_gains_12 rfl rfl ?_
    refine Ex_aload_n dX12_gains_13 rfl rfl ?_
    refine Ex_getf dX12_gains_14 rfl (ma0 M) rfl rfl rfl ?_
    refine Ex_iload_n dX12_gains_17 rfl rfl ?_
    refine Ex_iald12 dX12_gains_18 rfl (ma3 M) rfl (by omega) ?_
    refine Ex_iload_n dX12_gains_19 rfl rfl ?_
    refine Ex_iadd dX12_gains_20 rfl ?_
    refine Ex_bipush dX12_gains_21 rfl (by decide) ?_
    refine Ex_stat 0 dX12_gains_23 rfl rfl (Or.inl rfl) rfl rfl rfl rfl rfl rfl (Ex_post (x12_held (by omega) (by omega)) ?_)
    rintro _ _ ⟨rfl, e0⟩
    obtain rfl := Eq.symm e0
    rw [hl_cl]
    refine Ex_iast12 dX12_gains_26 rfl (ma3 M) rfl (by omega) (by omega) ?_
    refine mg3 M ?_
    intro h1_ M1_ f1_
    refine Ex_vret dX12_gains_27 rfl ?_
    rw [gT_at hc]
    exact ⟨rfl, M1_, f1_⟩
  · refine Ex_aload_n dX12_gains_0 rfl rfl ?_
    refine Ex_iload_n dX12_gains_1 rfl rfl ?_
    refine Ex_inv 2 dX12_gains_2 rfl rfl (Or.inl rfl) rfl rfl rfl rfl (ma0 M) rfl rfl rfl (Ex_post (x12_isChild M hn hn6 (by omega)) ?_)
    rintro _ _ ⟨rfl, e0⟩
    obtain rfl := Eq.symm e0
    refine Ex_if_eq (t := 27) dX12_gains_5 rfl rfl (by omega) (fun c5 => ?_) (fun c5 => absurd c5 (by omega))
    refine Ex_vret dX12_gains_27 rfl ?_
    rw [show gT n c v T = T from if_neg q]
    exact ⟨rfl, M, Fr.rf _ _ _⟩
theorem x12_letGo {E : am_E} {d : Nat} {h : Hp} {m n : Nat} {g K F T S C : Nat → Int} {ρ : Nat → Nat → Int} {kp : Value} {c : Nat}  (M : MAt h m g K F T S C ρ kp) (hn : g 0 = (n : Int)) (hn6 : n ≤ 6) (hg : Rng n T S C) (hK : ∀ i, i < n → (0 ≤ K i ∧ K i ≤ 7) ∧ (0 ≤ F i ∧ F i ≤ 9)) (hB : E.2 ≤ m) (hc : c < n) (hs : S c < 7)  : Ex E (d + 3) mX12_letGo 0 [.ref m, .int (i32 (c : Int)), .retAddr 0] [] h (fun r1 h1 => r1 = none ∧ MAt h1 m g K F (mnT n c 2 K F T S) (mnS c 2 K F T S) C ρ kp ∧ Fr h h1 m (m + 23)) := by
  have hgc := hg c hc
  have hKc := hK c hc
  have hpa := sp_passes_r (k := K c)
  have hfr := sp_fright_r (k := K c) hKc.2
  by_cases q : sp_needs (K c) (F c) (S c) ≤ T c
  · have hg2 : Rng n T (fu S c (S c + 1)) C := by
      have := hg.fu (i := c) (t := T c) (s := S c + 1) (c := C c) hgc.1 (by omega) hgc.2.2
      rw [fu_same, fu_same] at this
      exact this
    refine Ex_aload_n dX12_letGo_0 rfl rfl ?_
    refine Ex_iload_n dX12_letGo_1 rfl rfl ?_
    refine Ex_inv 2 dX12_letGo_2 rfl rfl (Or.inl rfl) rfl rfl rfl rfl (ma0 M) rfl rfl rfl (Ex_post (x12_passesOf M hn6 hK hc) ?_)
    rintro _ _ ⟨rfl, e0⟩
    obtain rfl := Eq.symm e0
    refine Ex_istore_n (L2 := [_, _, _]) dX12_letGo_5 rfl rfl rfl ?_
    refine Ex_aload_n dX12_letGo_6 rfl rfl ?_
    refine Ex_iload_n dX12_letGo_7 rfl rfl ?_
    refine Ex_inv 2 dX12_letGo_8 rfl rfl (Or.inl rfl) rfl rfl rfl rfl (ma0 M) rfl rfl rfl (Ex_post (x12_isReady M hn6 hg hK hc) ?_)
    rintro _ _ ⟨rfl, e0⟩
    obtain rfl := Eq.symm e0
    refine Ex_if_eq (t := 43) dX12_letGo_11 rfl rfl (by omega) (fun c11 => absurd c11 (by omega)) (fun c11 => ?_)
    refine Ex_aload_n dX12_letGo_14 rfl rfl ?_
    refine Ex_getf dX12_letGo_15 rfl (ma0 M) rfl rfl rfl ?_
    refine Ex_iload_n dX12_letGo_18 rfl rfl ?_
    refine Ex_dup2 dX12_letGo_19 rfl rfl rfl ?_
    refine Ex_iald12 dX12_letGo_20 rfl (ma4 M) rfl (by omega) ?_
    refine Ex_iconst dX12_letGo_21 rfl ?_
    refine Ex_iadd dX12_letGo_22 rfl ?_
    refine Ex_iast12 dX12_letGo_23 rfl (ma4 M) rfl (by omega) (by omega) ?_
    refine mg4 M ?_
    intro h1_ M1_ f1_
    refine Ex_aload_n dX12_letGo_24 rfl rfl ?_
    refine Ex_iload_n dX12_letGo_25 rfl rfl ?_
    refine Ex_iconst dX12_letGo_26 rfl ?_
    refine Ex_isub dX12_letGo_27 rfl ?_
    refine Ex_iload_n dX12_letGo_28 rfl rfl ?_
    refine Ex_inv 2 dX12_letGo_29 rfl rfl (Or.inl rfl) rfl rfl rfl rfl (ma0 M1_) rfl rfl rfl (Ex_post (x12_gains M1_ hn hn6 hg2 hB (by omega) (by omega)) ?_)
    rintro _ h2_ ⟨rfl, M2_, f2_⟩
    refine Ex_aload_n dX12_letGo_32 rfl rfl ?_
    refine Ex_iload_n dX12_letGo_33 rfl rfl ?_
    refine Ex_iconst dX12_letGo_34 rfl ?_
    refine Ex_iadd dX12_letGo_35 rfl ?_
    refine Ex_iload_n dX12_letGo_36 rfl rfl ?_
    refine Ex_inv 2 dX12_letGo_37 rfl rfl (Or.inl rfl) rfl rfl rfl rfl (ma0 M2_) rfl rfl rfl (Ex_post (x12_gains M2_ hn hn6 (gT_r hg2) hB (by omega) (by omega)) ?_)
    rintro _ h3_ ⟨rfl, M3_, f3_⟩
    refine Ex_goto (t := 72) dX12_letGo_40 rfl ?_
    refine Ex_vret dX12_letGo_72 rfl ?_
    have e1 : mnS c 2 K F T S = fu S c (S c + 1) := by unfold mnS; rw [if_neg (by decide), sp_ms_2, if_pos q]
    have e2 : mnT n c 2 K F T S = gT n ((c : Int) + 1) (sp_passes (K c)) (gT n ((c : Int) - 1) (sp_passes (K c)) T) := by
      rw [gT_ps hc]
      unfold mnT
      rw [if_neg (by decide), if_pos rfl, if_pos q, sp_mt_2, if_pos q, fu_same]
    rw [e1, e2]
    exact ⟨rfl, M3_, (f1_.trans (f2_.trans f3_))⟩
  · refine Ex_aload_n dX12_letGo_0 rfl rfl ?_
    refine Ex_iload_n dX12_letGo_1 rfl rfl ?_
    refine Ex_inv 2 dX12_letGo_2 rfl rfl (Or.inl rfl) rfl rfl rfl rfl (ma0 M) rfl rfl rfl (Ex_post (x12_passesOf M hn6 hK hc) ?_)
    rintro _ _ ⟨rfl, e0⟩
    obtain rfl := Eq.symm e0
    refine Ex_istore_n (L2 := [_, _, _]) dX12_letGo_5 rfl rfl rfl ?_
    refine Ex_aload_n dX12_letGo_6 rfl rfl ?_
    refine Ex_iload_n dX12_letGo_7 rfl rfl ?_
    refine Ex_inv 2 dX12_letGo_8 rfl rfl (Or.inl rfl) rfl rfl rfl rfl (ma0 M) rfl rfl rfl (Ex_post (x12_isReady M hn6 hg hK hc) ?_)
    rintro _ _ ⟨rfl, e0⟩
    obtain rfl := Eq.symm e0
    refine Ex_if_eq (t := 43) dX12_letGo_11 rfl rfl (by omega) (fun c11 => ?_) (fun c11 => absurd c11 (by omega))
    refine Ex_aload_n dX12_letGo_43 rfl rfl ?_
    refine Ex_iload_n dX12_letGo_44 rfl rfl ?_
    refine Ex_aload_n dX12_letGo_45 rfl rfl ?_
    refine Ex_iload_n dX12_letGo_46 rfl rfl ?_
    refine Ex_inv 2 dX12_letGo_47 rfl rfl (Or.inl rfl) rfl rfl rfl rfl (ma0 M) rfl rfl rfl (Ex_post (x12_frightOf M hn6 hK hc) ?_)
    rintro _ _ ⟨rfl, e0⟩
    obtain rfl := Eq.symm e0
    refine Ex_ineg dX12_letGo_50 rfl ?_
    refine Ex_inv 2 dX12_letGo_51 rfl rfl (Or.inl rfl) rfl rfl rfl rfl (ma0 M) rfl rfl rfl (Ex_post (x12_gains M hn hn6 hg hB (by omega) (by omega)) ?_)
    rintro _ h1_ ⟨rfl, M1_, f1_⟩
    refine Ex_aload_n dX12_letGo_54 rfl rfl ?_
    refine Ex_iload_n dX12_letGo_55 rfl rfl ?_
    refine Ex_iconst dX12_letGo_56 rfl ?_
    refine Ex_isub dX12_letGo_57 rfl ?_
    refine Ex_iload_n dX12_letGo_58 rfl rfl ?_
    refine Ex_ineg dX12_letGo_59 rfl ?_
    refine Ex_inv 2 dX12_letGo_60 rfl rfl (Or.inl rfl) rfl rfl rfl rfl (ma0 M1_) rfl rfl rfl (Ex_post (x12_gains M1_ hn hn6 (gT_r hg) hB (by omega) (by omega)) ?_)
    rintro _ h2_ ⟨rfl, M2_, f2_⟩
    refine Ex_aload_n dX12_letGo_63 rfl rfl ?_
    refine Ex_iload_n dX12_letGo_64 rfl rfl ?_
    refine Ex_iconst dX12_letGo_65 rfl ?_
    refine Ex_iadd dX12_letGo_66 rfl ?_
    refine Ex_iload_n dX12_letGo_67 rfl rfl ?_
    refine Ex_ineg dX12_letGo_68 rfl ?_
    refine Ex_inv 2 dX12_letGo_69 rfl rfl (Or.inl rfl) rfl rfl rfl rfl (ma0 M2_) rfl rfl rfl (Ex_post (x12_gains M2_ hn hn6 (gT_r (gT_r hg)) hB (by omega) (by omega)) ?_)
    rintro _ h3_ ⟨rfl, M3_, f3_⟩
    refine Ex_vret dX12_letGo_72 rfl ?_
    have e1 : mnS c 2 K F T S = S := by unfold mnS; rw [if_neg (by decide), sp_ms_2, if_neg q, fu_same]
    have e2 : mnT n c 2 K F T S = gT n ((c : Int) + 1) (-sp_passes (K c)) (gT n ((c : Int) - 1) (-sp_passes (K c)) (gT n (c : Int) (-sp_fright (K c) (F c)) T)) := by
      rw [gT_ps hc, gT_at hc]
      unfold mnT
      rw [if_neg (by decide), if_pos rfl, if_neg q, sp_mt_2, if_neg q, Int.sub_eq_add_neg]
    rw [e1, e2]
    exact ⟨rfl, M3_, (f1_.trans (f2_.trans f3_))⟩
