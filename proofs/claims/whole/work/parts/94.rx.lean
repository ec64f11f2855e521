/-! the reference: bath, small methods (by program: wip/whole/spec_rx.py) -/
/-- what stands at a place, -999 behind the end -/
def hre (xs : List Int) (i : Nat) : Int := if i < xs.length then xs.getD i 0 else -999
theorem x12_here {E : am_E} {d : Nat} {h : Hp} {m : Nat} {g K F T S C : Nat → Int} {ρ : Nat → Nat → Int} {kp : Value} {a i : Nat} {xs : List Int}  (M : MAt h m g K F T S C ρ kp) (ha : a < 8) (h14 : g 14 = (a : Int)) (hlen : ρ 10 a = (xs.length : Int)) (hl2 : xs.length ≤ 100) (hx : ∀ i, i < xs.length → ρ 11 (100 * a + i) = xs.getD i 0 ∧ (-2147483648 ≤ xs.getD i 0 ∧ xs.getD i 0 ≤ 2147483647)) (h15 : g 15 = (i : Int)) (hi : i ≤ 1000)  : Ex E d mX12_here 0 [.ref m] [] h (fun r1 h1 => r1 = some (.int (i32 (hre xs i))) ∧ h1 = h) := by
  by_cases q : i < xs.length
  · have ea : hre xs i = xs.getD i 0 := if_pos q
    rw [ea]
    refine Ex_aload_n dX12_here_0 rfl rfl ?_
    refine Ex_getf dX12_here_1 rfl (ma0 M) rfl rfl rfl ?_
    refine Ex_aload_n dX12_here_4 rfl rfl ?_
    refine Ex_getf dX12_here_5 rfl (ma0 M) rfl rfl rfl ?_
    refine Ex_aload_n dX12_here_8 rfl rfl ?_
    refine Ex_getf dX12_here_9 rfl (ma0 M) rfl rfl rfl ?_
    refine Ex_iald12 (c := a) dX12_here_12 rfl (ma10 M) h14 (by omega) ?_
    rw [hlen]
    refine Ex_icmp_ge (t := 37) dX12_here_13 rfl rfl (by omega) (fun c13 => absurd c13 (by omega)) (fun c13 => ?_)
    refine Ex_aload_n dX12_here_16 rfl rfl ?_
    refine Ex_getf dX12_here_17 rfl (ma0 M) rfl rfl rfl ?_
    refine Ex_bipush dX12_here_20 rfl (by decide) ?_
    refine Ex_aload_n dX12_here_22 rfl rfl ?_
    refine Ex_getf dX12_here_23 rfl (ma0 M) rfl rfl rfl ?_
    refine Ex_imul dX12_here_26 rfl ?_
    refine Ex_aload_n dX12_here_27 rfl rfl ?_
    refine Ex_getf dX12_here_28 rfl (ma0 M) rfl rfl rfl ?_
    refine Ex_iadd dX12_here_31 rfl ?_
    refine Ex_lald12 (c := (100 * a + i)) dX12_here_32 rfl (ma11 M) (by rw [h14, h15]; omega) (by omega) ?_
    refine Ex_l2i dX12_here_33 rfl ?_
    refine Ex_goto (t := 40) dX12_here_34 rfl ?_
    refine Ex_iret dX12_here_40 rfl rfl ?_
    exact ⟨ri (hx i q).1, rfl⟩
  · have ea : hre xs i = -999 := if_neg q
    rw [ea]
    refine Ex_aload_n dX12_here_0 rfl rfl ?_
    refine Ex_getf dX12_here_1 rfl (ma0 M) rfl rfl rfl ?_
    refine Ex_aload_n dX12_here_4 rfl rfl ?_
    refine Ex_getf dX12_here_5 rfl (ma0 M) rfl rfl rfl ?_
    refine Ex_aload_n dX12_here_8 rfl rfl ?_
    refine Ex_getf dX12_here_9 rfl (ma0 M) rfl rfl rfl ?_
    refine Ex_iald12 (c := a) dX12_here_12 rfl (ma10 M) h14 (by omega) ?_
    rw [hlen]
    refine Ex_icmp_ge (t := 37) dX12_here_13 rfl rfl (by omega) (fun c13 => ?_) (fun c13 => absurd c13 (by omega))
    refine Ex_sipush dX12_here_37 rfl (by decide) ?_
    refine Ex_iret dX12_here_40 rfl rfl ?_
    exact ⟨rfl, rfl⟩
theorem x12_isLetter {E : am_E} {d : Nat} {h : Hp} {v : Int}  (hv : -2147483648 ≤ v ∧ v ≤ 2147483647)  : Ex E d mX12_isLetter 0 [.int (i32 v)] [] h (fun r1 h1 => r1 = some (.int (i32 (if dB v = -1 then 0 else 1))) ∧ h1 = h) := by
  have ed : dB v = -1 ↔ ¬ (v = 99 ∨ v = 109 ∨ v = 98 ∨ v = 120 ∨ v = 116 ∨ v = 115) := by unfold dB; (repeat' split) <;> omega
  refine Ex_iload_n dX12_isLetter_0 rfl rfl ?_
  refine Ex_bipush dX12_isLetter_1 rfl (by decide) ?_
  refine Ex_icmp_eq (t := 36) dX12_isLetter_3 rfl rfl (by omega) (fun c3 => ?_) (fun c3 => ?_)
  · refine Ex_iconst dX12_isLetter_36 rfl ?_
    refine Ex_goto (t := 41) dX12_isLetter_37 rfl ?_
    refine Ex_iret dX12_isLetter_41 rfl rfl ?_
    exact ⟨ri (by split <;> omega), rfl⟩
  · refine Ex_iload_n dX12_isLetter_6 rfl rfl ?_
    refine Ex_bipush dX12_isLetter_7 rfl (by decide) ?_
    refine Ex_icmp_eq (t := 36) dX12_isLetter_9 rfl rfl (by omega) (fun c9 => ?_) (fun c9 => ?_)
    · refine Ex_iconst dX12_isLetter_36 rfl ?_
      refine Ex_goto (t := 41) dX12_isLetter_37 rfl ?_
      refine Ex_iret dX12_isLetter_41 rfl rfl ?_
      exact ⟨ri (by split <;> omega), rfl⟩
    · refine Ex_iload_n dX12_isLetter_12 rfl rfl ?_
      refine Ex_bipush dX12_isLetter_13 rfl (by decide) ?_
      refine Ex_icmp_eq (t := 36) dX12_isLetter_15 rfl rfl (by omega) (fun c15 => ?_) (fun c15 => ?_)
      · refine Ex_iconst dX12_isLetter_36 rfl ?_
        refine Ex_goto (t := 41) dX12_isLetter_37 rfl ?_
        refine Ex_iret dX12_isLetter_41 rfl rfl ?_
        exact ⟨ri (by split <;> omega), rfl⟩
      · refine Ex_iload_n dX12_isLetter_18 rfl rfl ?_
        refine Ex_bipush dX12_isLetter_19 rfl (by decide) ?_
        refine Ex_icmp_eq (t := 36) dX12_isLetter_21 rfl rfl (by omega) (fun c21 => ?_) (fun c21 => ?_)
        · refine Ex_iconst dX12_isLetter_36 rfl ?_
          refine Ex_goto (t := 41) dX12_isLetter_37 rfl ?_
          refine Ex_iret dX12_isLetter_41 rfl rfl ?_
          exact ⟨ri (by split <;> omega), rfl⟩
        · refine Ex_iload_n dX12_isLetter_24 rfl rfl ?_
          refine Ex_bipush dX12_isLetter_25 rfl (by decide) ?_
          refine Ex_icmp_eq (t := 36) dX12_isLetter_27 rfl rfl (by omega) (fun c27 => ?_) (fun c27 => ?_)
          · refine Ex_iconst dX12_isLetter_36 rfl ?_
            refine Ex_goto (t := 41) dX12_isLetter_37 rfl ?_
            refine Ex_iret dX12_isLetter_41 rfl rfl ?_
            exact ⟨ri (by split <;> omega), rfl⟩
          · refine Ex_iload_n dX12_isLetter_30 rfl rfl ?_
            refine Ex_bipush dX12_isLetter_31 rfl (by decide) ?_
            refine Ex_icmp_ne (t := 40) dX12_isLetter_33 rfl rfl (by omega) (fun c33 => ?_) (fun c33 => ?_)
            · refine Ex_iconst dX12_isLetter_40 rfl ?_
              refine Ex_iret dX12_isLetter_41 rfl rfl ?_
              exact ⟨ri (by split <;> omega), rfl⟩
            · refine Ex_iconst dX12_isLetter_36 rfl ?_
              refine Ex_goto (t := 41) dX12_isLetter_37 rfl ?_
              refine Ex_iret dX12_isLetter_41 rfl rfl ?_
              exact ⟨ri (by split <;> omega), rfl⟩
