/-! the KINDS' constructors (by program: wip/whole/spec_h.py) -/
theorem x1_init {E : am_E} {d : Nat} {h : Hp} {a t : Nat} {f : Int}  (hp : h.1 a = some (t, kd)) (hB : E.2 ≤ a) (hnx : h.2.1 = a + 1) (ht : t = 0 ∨ t = 1 ∨ t = 2 ∨ t = 3 ∨ t = 4 ∨ t = 6 ∨ t = 9 ∨ t = 10)  : Ex E (d + 1) mX1_init 0 [.ref a, .int (i32 f), .retAddr 0] [] h (fun r h1 => r = none ∧ h1 = kh h a (t, [.int (i32 f), .int (i32 0), .int (i32 2), .int (i32 3), .int (i32 5), .int (i32 1), .int (i32 5), .ref (a + 1)]) (20, kn (fun s => s + 4))) := by
  obtain ⟨hty, hct⟩ := kt_facts ht
  have hpf := kt_pf mX1_init rfl rfl ht
  refine Ex_aload_n dX1_init_0 rfl rfl ?_
  refine Ex_obj dX1_init_1 rfl rfl rfl ?_
  refine Ex_aload_n dX1_init_4 rfl rfl ?_
  refine Ex_bipush dX1_init_5 rfl (by decide) ?_
  refine Ex_newaI (N := 8) (fs := [_, _, _, _, _, _, _, _]) dX1_init_7 rfl (by first | omega | (dsimp only; omega)) rfl rfl ?_
  rw [kh_new hp hnx, hnx]
  refine Ex_putf (fs2 := [_, _, _, _, _, _, _, _]) dX1_init_9 rfl (by first | exact kh_1 _ _ _ _ | exact kh_2 _ _ _ _ | exact hp) rfl hct (hpf _ (by decide)) (by rw [hty]; rfl) (by rw [hty]; rfl) (by omega) rfl ?_
  first | rw [kh_p1] | rw [kh_p2] | skip
  refine Ex_aload_n dX1_init_12 rfl rfl ?_
  refine Ex_iload_n dX1_init_13 rfl rfl ?_
  refine Ex_putf (fs2 := [_, _, _, _, _, _, _, _]) dX1_init_14 rfl (by first | exact kh_1 _ _ _ _ | exact kh_2 _ _ _ _ | exact hp) rfl hct (hpf _ (by decide)) (by rw [hty]; rfl) (by rw [hty]; rfl) (by omega) rfl ?_
  first | rw [kh_p1] | rw [kh_p2] | skip
  refine Ex_aload_n dX1_init_17 rfl rfl ?_
  refine Ex_iconst dX1_init_18 rfl ?_
  refine Ex_putf (fs2 := [_, _, _, _, _, _, _, _]) dX1_init_19 rfl (by first | exact kh_1 _ _ _ _ | exact kh_2 _ _ _ _ | exact hp) rfl hct (hpf _ (by decide)) (by rw [hty]; rfl) (by rw [hty]; rfl) (by omega) rfl ?_
  first | rw [kh_p1] | rw [kh_p2] | skip
  refine Ex_aload_n dX1_init_22 rfl rfl ?_
  refine Ex_iconst dX1_init_23 rfl ?_
  refine Ex_putf (fs2 := [_, _, _, _, _, _, _, _]) dX1_init_24 rfl (by first | exact kh_1 _ _ _ _ | exact kh_2 _ _ _ _ | exact hp) rfl hct (hpf _ (by decide)) (by rw [hty]; rfl) (by rw [hty]; rfl) (by omega) rfl ?_
  first | rw [kh_p1] | rw [kh_p2] | skip
  refine Ex_aload_n dX1_init_27 rfl rfl ?_
  refine Ex_iconst dX1_init_28 rfl ?_
  refine Ex_putf (fs2 := [_, _, _, _, _, _, _, _]) dX1_init_29 rfl (by first | exact kh_1 _ _ _ _ | exact kh_2 _ _ _ _ | exact hp) rfl hct (hpf _ (by decide)) (by rw [hty]; rfl) (by rw [hty]; rfl) (by omega) rfl ?_
  first | rw [kh_p1] | rw [kh_p2] | skip
  refine Ex_aload_n dX1_init_32 rfl rfl ?_
  refine Ex_iconst dX1_init_33 rfl ?_
  refine Ex_putf (fs2 := [_, _, _, _, _, _, _, _]) dX1_init_34 rfl (by first | exact kh_1 _ _ _ _ | exact kh_2 _ _ _ _ | exact hp) rfl hct (hpf _ (by decide)) (by rw [hty]; rfl) (by rw [hty]; rfl) (by omega) rfl ?_
  first | rw [kh_p1] | rw [kh_p2] | skip
  refine Ex_aload_n dX1_init_37 rfl rfl ?_
  refine Ex_iconst dX1_init_38 rfl ?_
  refine Ex_putf (fs2 := [_, _, _, _, _, _, _, _]) dX1_init_39 rfl (by first | exact kh_1 _ _ _ _ | exact kh_2 _ _ _ _ | exact hp) rfl hct (hpf _ (by decide)) (by rw [hty]; rfl) (by rw [hty]; rfl) (by omega) rfl ?_
  first | rw [kh_p1] | rw [kh_p2] | skip
  refine Ex_aload_n dX1_init_42 rfl rfl ?_
  refine Ex_iconst dX1_init_43 rfl ?_
  refine Ex_putf (fs2 := [_, _, _, _, _, _, _, _]) dX1_init_44 rfl (by first | exact kh_1 _ _ _ _ | exact kh_2 _ _ _ _ | exact hp) rfl hct (hpf _ (by decide)) (by rw [hty]; rfl) (by rw [hty]; rfl) (by omega) rfl ?_
  first | rw [kh_p1] | rw [kh_p2] | skip
  refine Ex_iconst dX1_init_47 rfl ?_
  refine Ex_istore_n (L2 := [_, _, _]) dX1_init_48 rfl rfl rfl ?_
  refine Ex_iload_n dX1_init_49 rfl rfl ?_
  refine Ex_bipush dX1_init_50 rfl (by decide) ?_
  refine Ex_icmp_ge (t := 70) dX1_init_52 rfl rfl (by first | omega | (dsimp only; omega)) (fun c52 => absurd c52 (by first | omega | (dsimp only; omega))) (fun c52 => ?_)
  refine Ex_aload_n dX1_init_55 rfl rfl ?_
  refine Ex_getf dX1_init_56 rfl (by first | exact kh_1 _ _ _ _ | exact kh_2 _ _ _ _ | exact hp) rfl hct rfl ?_
  refine Ex_iload_n dX1_init_59 rfl rfl ?_
  refine Ex_iload_n dX1_init_60 rfl rfl ?_
  refine Ex_iconst dX1_init_61 rfl ?_
  refine Ex_iadd dX1_init_62 rfl ?_
  refine Ex_iast (fs2 := [_, _, _, _, _, _, _, _]) dX1_init_63 rfl (by first | exact kh_1 _ _ _ _ | exact kh_2 _ _ _ _ | exact hp) (by first | omega | (dsimp only; omega)) (Nat.le_of_ble_eq_true rfl) (by omega) rfl ?_
  first | rw [kh_p1] | rw [kh_p2] | skip
  refine Ex_iinc (L2 := [_, _, _]) dX1_init_64 rfl rfl rfl ?_
  refine Ex_goto (t := 49) dX1_init_67 rfl ?_
  refine Ex_iload_n dX1_init_49 rfl rfl ?_
  refine Ex_bipush dX1_init_50 rfl (by decide) ?_
  refine Ex_icmp_ge (t := 70) dX1_init_52 rfl rfl (by first | omega | (dsimp only; omega)) (fun c52 => absurd c52 (by first | omega | (dsimp only; omega))) (fun c52 => ?_)
  refine Ex_aload_n dX1_init_55 rfl rfl ?_
  refine Ex_getf dX1_init_56 rfl (by first | exact kh_1 _ _ _ _ | exact kh_2 _ _ _ _ | exact hp) rfl hct rfl ?_
  refine Ex_iload_n dX1_init_59 rfl rfl ?_
  refine Ex_iload_n dX1_init_60 rfl rfl ?_
  refine Ex_iconst dX1_init_61 rfl ?_
  refine Ex_iadd dX1_init_62 rfl ?_
  refine Ex_iast (fs2 := [_, _, _, _, _, _, _, _]) dX1_init_63 rfl (by first | exact kh_1 _ _ _ _ | exact kh_2 _ _ _ _ | exact hp) (by first | omega | (dsimp only; omega)) (Nat.le_of_ble_eq_true rfl) (by omega) rfl ?_
  first | rw [kh_p1] | rw [kh_p2] | skip
  refine Ex_iinc (L2 := [_, _, _]) dX1_init_64 rfl rfl rfl ?_
  refine Ex_goto (t := 49) dX1_init_67 rfl ?_
  refine Ex_iload_n dX1_init_49 rfl rfl ?_
  refine Ex_bipush dX1_init_50 rfl (by decide) ?_
  refine Ex_icmp_ge (t := 70) dX1_init_52 rfl rfl (by first | omega | (dsimp only; omega)) (fun c52 => absurd c52 (by first | omega | (dsimp only; omega))) (fun c52 => ?_)
  refine Ex_aload_n dX1_init_55 rfl rfl ?_
  refine Ex_getf dX1_init_56 rfl (by first | exact kh_1 _ _ _ _ | exact kh_2 _ _ _ _ | exact hp) rfl hct rfl ?_
  refine Ex_iload_n dX1_init_59 rfl rfl ?_
  refine Ex_iload_n dX1_init_60 rfl rfl ?_
  refine Ex_iconst dX1_init_61 rfl ?_
  refine Ex_iadd dX1_init_62 rfl ?_
  refine Ex_iast (fs2 := [_, _, _, _, _, _, _, _]) dX1_init_63 rfl (by first | exact kh_1 _ _ _ _ | exact kh_2 _ _ _ _ | exact hp) (by first | omega | (dsimp only; omega)) (Nat.le_of_ble_eq_true rfl) (by omega) rfl ?_
  first | rw [kh_p1] | rw [kh_p2] | skip
  refine Ex_iinc (L2 := [_, _, _]) dX1_init_64 rfl rfl rfl ?_
  refine Ex_goto (t := 49) dX1_init_67 rfl ?_
  refine Ex_iload_n dX1_init_49 rfl rfl ?_
  refine Ex_bipush dX1_init_50 rfl (by decide) ?_
  refine Ex_icmp_ge (t := 70) dX1_init_52 rfl rfl (by first | omega | (dsimp only; omega)) (fun c52 => absurd c52 (by first | omega | (dsimp only; omega))) (fun c52 => ?_)
  refine Ex_aload_n dX1_init_55 rfl rfl ?_
  refine Ex_getf dX1_init_56 rfl (by first | exact kh_1 _ _ _ _ | exact kh_2 _ _ _ _ | exact hp) rfl hct rfl ?_
  refine Ex_iload_n dX1_init_59 rfl rfl ?_
  refine Ex_iload_n dX1_init_60 rfl rfl ?_
  refine Ex_iconst dX1_init_61 rfl ?_
  refine Ex_iadd dX1_init_62 rfl ?_
  refine Ex_iast (fs2 := [_, _, _, _, _, _, _, _]) dX1_init_63 rfl (by first | exact kh_1 _ _ _ _ | exact kh_2 _ _ _ _ | exact hp) (by first | omega | (dsimp only; omega)) (Nat.le_of_ble_eq_true rfl) (by omega) rfl ?_
  first | rw [kh_p1] | rw [kh_p2] | skip
  refine Ex_iinc (L2 := [_, _, _]) dX1_init_64 rfl rfl rfl ?_
  refine Ex_goto (t := 49) dX1_init_67 rfl ?_
  refine Ex_iload_n dX1_init_49 rfl rfl ?_
  refine Ex_bipush dX1_init_50 rfl (by decide) ?_
  refine Ex_icmp_ge (t := 70) dX1_init_52 rfl rfl (by first | omega | (dsimp only; omega)) (fun c52 => absurd c52 (by first | omega | (dsimp only; omega))) (fun c52 => ?_)
  refine Ex_aload_n dX1_init_55 rfl rfl ?_
  refine Ex_getf dX1_init_56 rfl (by first | exact kh_1 _ _ _ _ | exact kh_2 _ _ _ _ | exact hp) rfl hct rfl ?_
  refine Ex_iload_n dX1_init_59 rfl rfl ?_
  refine Ex_iload_n dX1_init_60 rfl rfl ?_
  refine Ex_iconst dX1_init_61 rfl ?_
  refine Ex_iadd dX1_init_62 rfl ?_
  refine Ex_iast (fs2 := [_, _, _, _, _, _, _, _]) dX1_init_63 rfl (by first | exact kh_1 _ _ _ _ | exact kh_2 _ _ _ _ | exact hp) (by first | omega | (dsimp only; omega)) (Nat.le_of_ble_eq_true rfl) (by omega) rfl ?_
  first | rw [kh_p1] | rw [kh_p2] | skip
  refine Ex_iinc (L2 := [_, _, _]) dX1_init_64 rfl rfl rfl ?_
  refine Ex_goto (t := 49) dX1_init_67 rfl ?_
  refine Ex_iload_n dX1_init_49 rfl rfl ?_
  refine Ex_bipush dX1_init_50 rfl (by decide) ?_
  refine Ex_icmp_ge (t := 70) dX1_init_52 rfl rfl (by first | omega | (dsimp only; omega)) (fun c52 => absurd c52 (by first | omega | (dsimp only; omega))) (fun c52 => ?_)
  refine Ex_aload_n dX1_init_55 rfl rfl ?_
  refine Ex_getf dX1_init_56 rfl (by first | exact kh_1 _ _ _ _ | exact kh_2 _ _ _ _ | exact hp) rfl hct rfl ?_
  refine Ex_iload_n dX1_init_59 rfl rfl ?_
  refine Ex_iload_n dX1_init_60 rfl rfl ?_
  refine Ex_iconst dX1_init_61 rfl ?_
  refine Ex_iadd dX1_init_62 rfl ?_
  refine Ex_iast (fs2 := [_, _, _, _, _, _, _, _]) dX1_init_63 rfl (by first | exact kh_1 _ _ _ _ | exact kh_2 _ _ _ _ | exact hp) (by first | omega | (dsimp only; omega)) (Nat.le_of_ble_eq_true rfl) (by omega) rfl ?_
  first | rw [kh_p1] | rw [kh_p2] | skip
  refine Ex_iinc (L2 := [_, _, _]) dX1_init_64 rfl rfl rfl ?_
  refine Ex_goto (t := 49) dX1_init_67 rfl ?_
  refine Ex_iload_n dX1_init_49 rfl rfl ?_
  refine Ex_bipush dX1_init_50 rfl (by decide) ?_
  refine Ex_icmp_ge (t := 70) dX1_init_52 rfl rfl (by first | omega | (dsimp only; omega)) (fun c52 => absurd c52 (by first | omega | (dsimp only; omega))) (fun c52 => ?_)
  refine Ex_aload_n dX1_init_55 rfl rfl ?_
  refine Ex_getf dX1_init_56 rfl (by first | exact kh_1 _ _ _ _ | exact kh_2 _ _ _ _ | exact hp) rfl hct rfl ?_
  refine Ex_iload_n dX1_init_59 rfl rfl ?_
  refine Ex_iload_n dX1_init_60 rfl rfl ?_
  refine Ex_iconst dX1_init_61 rfl ?_
  refine Ex_iadd dX1_init_62 rfl ?_
  refine Ex_iast (fs2 := [_, _, _, _, _, _, _, _]) dX1_init_63 rfl (by first | exact kh_1 _ _ _ _ | exact kh_2 _ _ _ _ | exact hp) (by first | omega | (dsimp only; omega)) (Nat.le_of_ble_eq_true rfl) (by omega) rfl ?_
  first | rw [kh_p1] | rw [kh_p2] | skip
  refine Ex_iinc (L2 := [_, _, _]) dX1_init_64 rfl rfl rfl ?_
  refine Ex_goto (t := 49) dX1_init_67 rfl ?_
  refine Ex_iload_n dX1_init_49 rfl rfl ?_
  refine Ex_bipush dX1_init_50 rfl (by decide) ?_
  refine Ex_icmp_ge (t := 70) dX1_init_52 rfl rfl (by first | omega | (dsimp only; omega)) (fun c52 => ?_) (fun c52 => absurd c52 (by first | omega | (dsimp only; omega)))
  refine Ex_vret dX1_init_70 rfl ?_
  exact ⟨rfl, rfl⟩
theorem x0_init {E : am_E} {d : Nat} {h : Hp} {a t : Nat} {f : Int}  (hp : h.1 a = some (t, kd)) (hB : E.2 ≤ a) (hnx : h.2.1 = a + 1) (ht : t = 0 ∨ t = 3 ∨ t = 4 ∨ t = 6) (hf : 0 ≤ f ∧ f ≤ 9)  : Ex E (d + 2) mX0_init 0 [.ref a, .int (i32 f), .retAddr 0] [] h (fun r h1 => r = none ∧ h1 = kh h a (t, [.int (i32 f), .int (i32 1), .int (i32 (2 - 1)), .int (i32 (3 - 1)), .int (i32 (5 + f)), .int (i32 1), .int (i32 (5 + f)), .ref (a + 1)]) (20, kn (fun s => s + 4 - 2))) := by
  have hta : t = 0 ∨ t = 1 ∨ t = 2 ∨ t = 3 ∨ t = 4 ∨ t = 6 ∨ t = 9 ∨ t = 10 := by omega
  obtain ⟨hty, hct⟩ := kt_facts hta
  have hpf := kt_pf2 mX0_init hta
  refine Ex_aload_n dX0_init_0 rfl rfl ?_
  refine Ex_iload_n dX0_init_1 rfl rfl ?_
  refine Ex_spec dX0_init_2 rfl rfl rfl rfl rfl rfl rfl rfl (Ex_post (x1_init hp hB hnx (by omega)) ?_)
  rintro _ _ ⟨rfl, rfl⟩
  refine Ex_aload_n dX0_init_5 rfl rfl ?_
  refine Ex_iconst dX0_init_6 rfl ?_
  refine Ex_putf (fs2 := [_, _, _, _, _, _, _, _]) dX0_init_7 rfl (by first | exact kh_1 _ _ _ _ | exact kh_2 _ _ _ _) rfl (by rcases ht with rfl | rfl | rfl | rfl <;> rfl) (hpf _ (by decide) (by decide)) (by rw [hty]; rfl) (by rw [hty]; rfl) (by omega) rfl ?_
  first | rw [kh_p1] | rw [kh_p2] | skip
  refine Ex_aload_n dX0_init_10 rfl rfl ?_
  refine Ex_dup dX0_init_11 rfl rfl ?_
  refine Ex_getf dX0_init_12 rfl (by first | exact kh_1 _ _ _ _ | exact kh_2 _ _ _ _) rfl (by rcases ht with rfl | rfl | rfl | rfl <;> rfl) rfl ?_
  refine Ex_iconst dX0_init_15 rfl ?_
  refine Ex_isub dX0_init_16 rfl ?_
  refine Ex_putf (fs2 := [_, _, _, _, _, _, _, _]) dX0_init_17 rfl (by first | exact kh_1 _ _ _ _ | exact kh_2 _ _ _ _) rfl (by rcases ht with rfl | rfl | rfl | rfl <;> rfl) (hpf _ (by decide) (by decide)) (by rw [hty]; rfl) (by rw [hty]; rfl) (by omega) rfl ?_
  first | rw [kh_p1] | rw [kh_p2] | skip
  refine Ex_aload_n dX0_init_20 rfl rfl ?_
  refine Ex_dup dX0_init_21 rfl rfl ?_
  refine Ex_getf dX0_init_22 rfl (by first | exact kh_1 _ _ _ _ | exact kh_2 _ _ _ _) rfl (by rcases ht with rfl | rfl | rfl | rfl <;> rfl) rfl ?_
  refine Ex_iconst dX0_init_25 rfl ?_
  refine Ex_isub dX0_init_26 rfl ?_
  refine Ex_putf (fs2 := [_, _, _, _, _, _, _, _]) dX0_init_27 rfl (by first | exact kh_1 _ _ _ _ | exact kh_2 _ _ _ _) rfl (by rcases ht with rfl | rfl | rfl | rfl <;> rfl) (hpf _ (by decide) (by decide)) (by rw [hty]; rfl) (by rw [hty]; rfl) (by omega) rfl ?_
  first | rw [kh_p1] | rw [kh_p2] | skip
  refine Ex_aload_n dX0_init_30 rfl rfl ?_
  refine Ex_dup dX0_init_31 rfl rfl ?_
  refine Ex_getf dX0_init_32 rfl (by first | exact kh_1 _ _ _ _ | exact kh_2 _ _ _ _) rfl (by rcases ht with rfl | rfl | rfl | rfl <;> rfl) rfl ?_
  refine Ex_iload_n dX0_init_35 rfl rfl ?_
  refine Ex_iadd dX0_init_36 rfl ?_
  refine Ex_putf (fs2 := [_, _, _, _, _, _, _, _]) dX0_init_37 rfl (by first | exact kh_1 _ _ _ _ | exact kh_2 _ _ _ _) rfl (by rcases ht with rfl | rfl | rfl | rfl <;> rfl) (hpf _ (by decide) (by decide)) (by rw [hty]; rfl) (by rw [hty]; rfl) (by omega) rfl ?_
  first | rw [kh_p1] | rw [kh_p2] | skip
  refine Ex_aload_n dX0_init_40 rfl rfl ?_
  refine Ex_dup dX0_init_41 rfl rfl ?_
  refine Ex_getf dX0_init_42 rfl (by first | exact kh_1 _ _ _ _ | exact kh_2 _ _ _ _) rfl (by rcases ht with rfl | rfl | rfl | rfl <;> rfl) rfl ?_
  refine Ex_iload_n dX0_init_45 rfl rfl ?_
  refine Ex_iadd dX0_init_46 rfl ?_
  refine Ex_putf (fs2 := [_, _, _, _, _, _, _, _]) dX0_init_47 rfl (by first | exact kh_1 _ _ _ _ | exact kh_2 _ _ _ _) rfl (by rcases ht with rfl | rfl | rfl | rfl <;> rfl) (hpf _ (by decide) (by decide)) (by rw [hty]; rfl) (by rw [hty]; rfl) (by omega) rfl ?_
  first | rw [kh_p1] | rw [kh_p2] | skip
  refine Ex_iconst dX0_init_50 rfl ?_
  refine Ex_istore_n (L2 := [_, _, _]) dX0_init_51 rfl rfl rfl ?_
  refine Ex_iload_n dX0_init_52 rfl rfl ?_
  refine Ex_bipush dX0_init_53 rfl (by decide) ?_
  refine Ex_icmp_ge (t := 74) dX0_init_55 rfl rfl (by first | omega | (dsimp only; omega)) (fun c55 => absurd c55 (by first | omega | (dsimp only; omega))) (fun c55 => ?_)
  refine Ex_aload_n dX0_init_58 rfl rfl ?_
  refine Ex_getf dX0_init_59 rfl (by first | exact kh_1 _ _ _ _ | exact kh_2 _ _ _ _) rfl (by rcases ht with rfl | rfl | rfl | rfl <;> rfl) rfl ?_
  refine Ex_iload_n dX0_init_62 rfl rfl ?_
  refine Ex_dup2 dX0_init_63 rfl rfl rfl ?_
  refine Ex_iald dX0_init_64 rfl (by first | exact kh_1 _ _ _ _ | exact kh_2 _ _ _ _) (by first | omega | (dsimp only; omega)) rfl ?_
  refine Ex_iconst dX0_init_65 rfl ?_
  refine Ex_isub dX0_init_66 rfl ?_
  refine Ex_iast (fs2 := [_, _, _, _, _, _, _, _]) dX0_init_67 rfl (by first | exact kh_1 _ _ _ _ | exact kh_2 _ _ _ _) (by first | omega | (dsimp only; omega)) (Nat.le_of_ble_eq_true rfl) (by omega) rfl ?_
  first | rw [kh_p1] | rw [kh_p2] | skip
  refine Ex_iinc (L2 := [_, _, _]) dX0_init_68 rfl rfl rfl ?_
  refine Ex_goto (t := 52) dX0_init_71 rfl ?_
  refine Ex_iload_n dX0_init_52 rfl rfl ?_
  refine Ex_bipush dX0_init_53 rfl (by decide) ?_
  refine Ex_icmp_ge (t := 74) dX0_init_55 rfl rfl (by first | omega | (dsimp only; omega)) (fun c55 => absurd c55 (by first | omega | (dsimp only; omega))) (fun c55 => ?_)
  refine Ex_aload_n dX0_init_58 rfl rfl ?_
  refine Ex_getf dX0_init_59 rfl (by first | exact kh_1 _ _ _ _ | exact kh_2 _ _ _ _) rfl (by rcases ht with rfl | rfl | rfl | rfl <;> rfl) rfl ?_
  refine Ex_iload_n dX0_init_62 rfl rfl ?_
  refine Ex_dup2 dX0_init_63 rfl rfl rfl ?_
  refine Ex_iald dX0_init_64 rfl (by first | exact kh_1 _ _ _ _ | exact kh_2 _ _ _ _) (by first | omega | (dsimp only; omega)) rfl ?_
  refine Ex_iconst dX0_init_65 rfl ?_
  refine Ex_isub dX0_init_66 rfl ?_
  refine Ex_iast (fs2 := [_, _, _, _, _, _, _, _]) dX0_init_67 rfl (by first | exact kh_1 _ _ _ _ | exact kh_2 _ _ _ _) (by first | omega | (dsimp only; omega)) (Nat.le_of_ble_eq_true rfl) (by omega) rfl ?_
  first | rw [kh_p1] | rw [kh_p2] | skip
  refine Ex_iinc (L2 := [_, _, _]) dX0_init_68 rfl rfl rfl ?_
  refine Ex_goto (t := 52) dX0_init_71 rfl ?_
  refine Ex_iload_n dX0_init_52 rfl rfl ?_
  refine Ex_bipush dX0_init_53 rfl (by decide) ?_
  refine Ex_icmp_ge (t := 74) dX0_init_55 rfl rfl (by first | omega | (dsimp only; omega)) (fun c55 => absurd c55 (by first | omega | (dsimp only; omega))) (fun c55 => ?_)
  refine Ex_aload_n dX0_init_58 rfl rfl ?_
  refine Ex_getf dX0_init_59 rfl (by first | exact kh_1 _ _ _ _ | exact kh_2 _ _ _ _) rfl (by rcases ht with rfl | rfl | rfl | rfl <;> rfl) rfl ?_
  refine Ex_iload_n dX0_init_62 rfl rfl ?_
  refine Ex_dup2 dX0_init_63 rfl rfl rfl ?_
  refine Ex_iald dX0_init_64 rfl (by first | exact kh_1 _ _ _ _ | exact kh_2 _ _ _ _) (by first | omega | (dsimp only; omega)) rfl ?_
  refine Ex_iconst dX0_init_65 rfl ?_
  refine Ex_isub dX0_init_66 rfl ?_
  refine Ex_iast (fs2 := [_, _, _, _, _, _, _, _]) dX0_init_67 rfl (by first | exact kh_1 _ _ _ _ | exact kh_2 _ _ _ _) (by first | omega | (dsimp only; omega)) (Nat.le_of_ble_eq_true rfl) (by omega) rfl ?_
  first | rw [kh_p1] | rw [kh_p2] | skip
  refine Ex_iinc (L2 := [_, _, _]) dX0_init_68 rfl rfl rfl ?_
  refine Ex_goto (t := 52) dX0_init_71 rfl ?_
  refine Ex_iload_n dX0_init_52 rfl rfl ?_
  refine Ex_bipush dX0_init_53 rfl (by decide) ?_
  refine Ex_icmp_ge (t := 74) dX0_init_55 rfl rfl (by first | omega | (dsimp only; omega)) (fun c55 => absurd c55 (by first | omega | (dsimp only; omega))) (fun c55 => ?_)
  refine Ex_aload_n dX0_init_58 rfl rfl ?_
  refine Ex_getf dX0_init_59 rfl (by first | exact kh_1 _ _ _ _ | exact kh_2 _ _ _ _) rfl (by rcases ht with rfl | rfl | rfl | rfl <;> rfl) rfl ?_
  refine Ex_iload_n dX0_init_62 rfl rfl ?_
  refine Ex_dup2 dX0_init_63 rfl rfl rfl ?_
  refine Ex_iald dX0_init_64 rfl (by first | exact kh_1 _ _ _ _ | exact kh_2 _ _ _ _) (by first | omega | (dsimp only; omega)) rfl ?_
  refine Ex_iconst dX0_init_65 rfl ?_
  refine Ex_isub dX0_init_66 rfl ?_
  refine Ex_iast (fs2 := [_, _, _, _, _, _, _, _]) dX0_init_67 rfl (by first | exact kh_1 _ _ _ _ | exact kh_2 _ _ _ _) (by first | omega | (dsimp only; omega)) (Nat.le_of_ble_eq_true rfl) (by omega) rfl ?_
  first | rw [kh_p1] | rw [kh_p2] | skip
  refine Ex_iinc (L2 := [_, _, _]) dX0_init_68 rfl rfl rfl ?_
  refine Ex_goto (t := 52) dX0_init_71 rfl ?_
  refine Ex_iload_n dX0_init_52 rfl rfl ?_
  refine Ex_bipush dX0_init_53 rfl (by decide) ?_
  refine Ex_icmp_ge (t := 74) dX0_init_55 rfl rfl (by first | omega | (dsimp only; omega)) (fun c55 => absurd c55 (by first | omega | (dsimp only; omega))) (fun c55 => ?_)
  refine Ex_aload_n dX0_init_58 rfl rfl ?_
  refine Ex_getf dX0_init_59 rfl (by first | exact kh_1 _ _ _ _ | exact kh_2 _ _ _ _) rfl (by rcases ht with rfl | rfl | rfl | rfl <;> rfl) rfl ?_
  refine Ex_iload_n dX0_init_62 rfl rfl ?_
  refine Ex_dup2 dX0_init_63 rfl rfl rfl ?_
  refine Ex_iald dX0_init_64 rfl (by first | exact kh_1 _ _ _ _ | exact kh_2 _ _ _ _) (by first | omega | (dsimp only; omega)) rfl ?_
  refine Ex_iconst dX0_init_65 rfl ?_
  refine Ex_isub dX0_init_66 rfl ?_
  refine Ex_iast (fs2 := [_, _, _, _, _, _, _, _]) dX0_init_67 rfl (by first | exact kh_1 _ _ _ _ | exact kh_2 _ _ _ _) (by first | omega | (dsimp only; omega)) (Nat.le_of_ble_eq_true rfl) (by omega) rfl ?_
  first | rw [kh_p1] | rw [kh_p2] | skip
  refine Ex_iinc (L2 := [_, _, _]) dX0_init_68 rfl rfl rfl ?_
  refine Ex_goto (t := 52) dX0_init_71 rfl ?_
  refine Ex_iload_n dX0_init_52 rfl rfl ?_
  refine Ex_bipush dX0_init_53 rfl (by decide) ?_
  refine Ex_icmp_ge (t := 74) dX0_init_55 rfl rfl (by first | omega | (dsimp only; omega)) (fun c55 => absurd c55 (by first | omega | (dsimp only; omega))) (fun c55 => ?_)
  refine Ex_aload_n dX0_init_58 rfl rfl ?_
  refine Ex_getf dX0_init_59 rfl (by first | exact kh_1 _ _ _ _ | exact kh_2 _ _ _ _) rfl (by rcases ht with rfl | rfl | rfl | rfl <;> rfl) rfl ?_
  refine Ex_iload_n dX0_init_62 rfl rfl ?_
  refine Ex_dup2 dX0_init_63 rfl rfl rfl ?_
  refine Ex_iald dX0_init_64 rfl (by first | exact kh_1 _ _ _ _ | exact kh_2 _ _ _ _) (by first | omega | (dsimp only; omega)) rfl ?_
  refine Ex_iconst dX0_init_65 rfl ?_
  refine Ex_isub dX0_init_66 rfl ?_
  refine Ex_iast (fs2 := [_, _, _, _, _, _, _, _]) dX0_init_67 rfl (by first | exact kh_1 _ _ _ _ | exact kh_2 _ _ _ _) (by first | omega | (dsimp only; omega)) (Nat.le_of_ble_eq_true rfl) (by omega) rfl ?_
  first | rw [kh_p1] | rw [kh_p2] | skip
  refine Ex_iinc (L2 := [_, _, _]) dX0_init_68 rfl rfl rfl ?_
  refine Ex_goto (t := 52) dX0_init_71 rfl ?_
  refine Ex_iload_n dX0_init_52 rfl rfl ?_
  refine Ex_bipush dX0_init_53 rfl (by decide) ?_
  refine Ex_icmp_ge (t := 74) dX0_init_55 rfl rfl (by first | omega | (dsimp only; omega)) (fun c55 => absurd c55 (by first | omega | (dsimp only; omega))) (fun c55 => ?_)
  refine Ex_aload_n dX0_init_58 rfl rfl ?_
  refine Ex_getf dX0_init_59 rfl (by first | exact kh_1 _ _ _ _ | exact kh_2 _ _ _ _) rfl (by rcases ht with rfl | rfl | rfl | rfl <;> rfl) rfl ?_
  refine Ex_iload_n dX0_init_62 rfl rfl ?_
  refine Ex_dup2 dX0_init_63 rfl rfl rfl ?_
  refine Ex_iald dX0_init_64 rfl (by first | exact kh_1 _ _ _ _ | exact kh_2 _ _ _ _) (by first | omega | (dsimp only; omega)) rfl ?_
  refine Ex_iconst dX0_init_65 rfl ?_
  refine Ex_isub dX0_init_66 rfl ?_
  refine Ex_iast (fs2 := [_, _, _, _, _, _, _, _]) dX0_init_67 rfl (by first | exact kh_1 _ _ _ _ | exact kh_2 _ _ _ _) (by first | omega | (dsimp only; omega)) (Nat.le_of_ble_eq_true rfl) (by omega) rfl ?_
  first | rw [kh_p1] | rw [kh_p2] | skip
  refine Ex_iinc (L2 := [_, _, _]) dX0_init_68 rfl rfl rfl ?_
  refine Ex_goto (t := 52) dX0_init_71 rfl ?_
  refine Ex_iload_n dX0_init_52 rfl rfl ?_
  refine Ex_bipush dX0_init_53 rfl (by decide) ?_
  refine Ex_icmp_ge (t := 74) dX0_init_55 rfl rfl (by first | omega | (dsimp only; omega)) (fun c55 => ?_) (fun c55 => absurd c55 (by first | omega | (dsimp only; omega)))
  refine Ex_vret dX0_init_74 rfl ?_
  exact ⟨rfl, rfl⟩
theorem x9_init {E : am_E} {d : Nat} {h : Hp} {a t : Nat} {f : Int}  (hp : h.1 a = some (t, kd)) (hB : E.2 ≤ a) (hnx : h.2.1 = a + 1) (ht : t = 9 ∨ t = 2) (hf : 0 ≤ f ∧ f ≤ 9)  : Ex E (d + 2) mX9_init 0 [.ref a, .int (i32 f), .retAddr 0] [] h (fun r h1 => r = none ∧ h1 = kh h a (t, [.int (i32 f), .int (i32 2), .int (i32 (2 + 1)), .int (i32 (3 + f / 2)), .int (i32 (5 - 1)), .int (i32 0), .int (i32 (5 - 2)), .ref (a + 1)]) (20, kn (fun s => (s + 4) * 2))) := by
  have hta : t = 0 ∨ t = 1 ∨ t = 2 ∨ t = 3 ∨ t = 4 ∨ t = 6 ∨ t = 9 ∨ t = 10 := by omega
  obtain ⟨hty, hct⟩ := kt_facts hta
  have hpf := kt_pf2 mX9_init hta
  refine Ex_aload_n dX9_init_0 rfl rfl ?_
  refine Ex_iload_n dX9_init_1 rfl rfl ?_
  refine Ex_spec dX9_init_2 rfl rfl rfl rfl rfl rfl rfl rfl (Ex_post (x1_init hp hB hnx (by omega)) ?_)
  rintro _ _ ⟨rfl, rfl⟩
  refine Ex_aload_n dX9_init_5 rfl rfl ?_
  refine Ex_iconst dX9_init_6 rfl ?_
  refine Ex_putf (fs2 := [_, _, _, _, _, _, _, _]) dX9_init_7 rfl (by first | exact kh_1 _ _ _ _ | exact kh_2 _ _ _ _) rfl (by rcases ht with rfl | rfl <;> rfl) (hpf _ (by decide) (by decide)) (by rw [hty]; rfl) (by rw [hty]; rfl) (by omega) rfl ?_
  first | rw [kh_p1] | rw [kh_p2] | skip
  refine Ex_aload_n dX9_init_10 rfl rfl ?_
  refine Ex_dup dX9_init_11 rfl rfl ?_
  refine Ex_getf dX9_init_12 rfl (by first | exact kh_1 _ _ _ _ | exact kh_2 _ _ _ _) rfl (by rcases ht with rfl | rfl <;> rfl) rfl ?_
  refine Ex_iconst dX9_init_15 rfl ?_
  refine Ex_iadd dX9_init_16 rfl ?_
  refine Ex_putf (fs2 := [_, _, _, _, _, _, _, _]) dX9_init_17 rfl (by first | exact kh_1 _ _ _ _ | exact kh_2 _ _ _ _) rfl (by rcases ht with rfl | rfl <;> rfl) (hpf _ (by decide) (by decide)) (by rw [hty]; rfl) (by rw [hty]; rfl) (by omega) rfl ?_
  first | rw [kh_p1] | rw [kh_p2] | skip
  refine Ex_aload_n dX9_init_20 rfl rfl ?_
  refine Ex_dup dX9_init_21 rfl rfl ?_
  refine Ex_getf dX9_init_22 rfl (by first | exact kh_1 _ _ _ _ | exact kh_2 _ _ _ _) rfl (by rcases ht with rfl | rfl <;> rfl) rfl ?_
  refine Ex_iload_n dX9_init_25 rfl rfl ?_
  refine Ex_iconst dX9_init_26 rfl ?_
  refine Ex_idiv dX9_init_27 rfl (by first | omega | (dsimp only; omega)) (by first | omega | (dsimp only; omega)) ?_
  refine Ex_iadd dX9_init_28 rfl ?_
  refine Ex_putf (fs2 := [_, _, _, _, _, _, _, _]) dX9_init_29 rfl (by first | exact kh_1 _ _ _ _ | exact kh_2 _ _ _ _) rfl (by rcases ht with rfl | rfl <;> rfl) (hpf _ (by decide) (by decide)) (by rw [hty]; rfl) (by rw [hty]; rfl) (by omega) rfl ?_
  first | rw [kh_p1] | rw [kh_p2] | skip
  refine Ex_aload_n dX9_init_32 rfl rfl ?_
  refine Ex_dup dX9_init_33 rfl rfl ?_
  refine Ex_getf dX9_init_34 rfl (by first | exact kh_1 _ _ _ _ | exact kh_2 _ _ _ _) rfl (by rcases ht with rfl | rfl <;> rfl) rfl ?_
  refine Ex_iconst dX9_init_37 rfl ?_
  refine Ex_isub dX9_init_38 rfl ?_
  refine Ex_putf (fs2 := [_, _, _, _, _, _, _, _]) dX9_init_39 rfl (by first | exact kh_1 _ _ _ _ | exact kh_2 _ _ _ _) rfl (by rcases ht with rfl | rfl <;> rfl) (hpf _ (by decide) (by decide)) (by rw [hty]; rfl) (by rw [hty]; rfl) (by omega) rfl ?_
  first | rw [kh_p1] | rw [kh_p2] | skip
  refine Ex_aload_n dX9_init_42 rfl rfl ?_
  refine Ex_iconst dX9_init_43 rfl ?_
  refine Ex_putf (fs2 := [_, _, _, _, _, _, _, _]) dX9_init_44 rfl (by first | exact kh_1 _ _ _ _ | exact kh_2 _ _ _ _) rfl (by rcases ht with rfl | rfl <;> rfl) (hpf _ (by decide) (by decide)) (by rw [hty]; rfl) (by rw [hty]; rfl) (by omega) rfl ?_
  first | rw [kh_p1] | rw [kh_p2] | skip
  refine Ex_aload_n dX9_init_47 rfl rfl ?_
  refine Ex_dup dX9_init_48 rfl rfl ?_
  refine Ex_getf dX9_init_49 rfl (by first | exact kh_1 _ _ _ _ | exact kh_2 _ _ _ _) rfl (by rcases ht with rfl | rfl <;> rfl) rfl ?_
  refine Ex_iconst dX9_init_52 rfl ?_
  refine Ex_isub dX9_init_53 rfl ?_
  refine Ex_putf (fs2 := [_, _, _, _, _, _, _, _]) dX9_init_54 rfl (by first | exact kh_1 _ _ _ _ | exact kh_2 _ _ _ _) rfl (by rcases ht with rfl | rfl <;> rfl) (hpf _ (by decide) (by decide)) (by rw [hty]; rfl) (by rw [hty]; rfl) (by omega) rfl ?_
  first | rw [kh_p1] | rw [kh_p2] | skip
  refine Ex_iconst dX9_init_57 rfl ?_
  refine Ex_istore_n (L2 := [_, _, _]) dX9_init_58 rfl rfl rfl ?_
  refine Ex_iload_n dX9_init_59 rfl rfl ?_
  refine Ex_bipush dX9_init_60 rfl (by decide) ?_
  refine Ex_icmp_ge (t := 81) dX9_init_62 rfl rfl (by first | omega | (dsimp only; omega)) (fun c62 => absurd c62 (by first | omega | (dsimp only; omega))) (fun c62 => ?_)
  refine Ex_aload_n dX9_init_65 rfl rfl ?_
  refine Ex_getf dX9_init_66 rfl (by first | exact kh_1 _ _ _ _ | exact kh_2 _ _ _ _) rfl (by rcases ht with rfl | rfl <;> rfl) rfl ?_
  refine Ex_iload_n dX9_init_69 rfl rfl ?_
  refine Ex_dup2 dX9_init_70 rfl rfl rfl ?_
  refine Ex_iald dX9_init_71 rfl (by first | exact kh_1 _ _ _ _ | exact kh_2 _ _ _ _) (by first | omega | (dsimp only; omega)) rfl ?_
  refine Ex_iconst dX9_init_72 rfl ?_
  refine Ex_imul dX9_init_73 rfl ?_
  refine Ex_iast (fs2 := [_, _, _, _, _, _, _, _]) dX9_init_74 rfl (by first | exact kh_1 _ _ _ _ | exact kh_2 _ _ _ _) (by first | omega | (dsimp only; omega)) (Nat.le_of_ble_eq_true rfl) (by omega) rfl ?_
  first | rw [kh_p1] | rw [kh_p2] | skip
  refine Ex_iinc (L2 := [_, _, _]) dX9_init_75 rfl rfl rfl ?_
  refine Ex_goto (t := 59) dX9_init_78 rfl ?_
  refine Ex_iload_n dX9_init_59 rfl rfl ?_
  refine Ex_bipush dX9_init_60 rfl (by decide) ?_
  refine Ex_icmp_ge (t := 81) dX9_init_62 rfl rfl (by first | omega | (dsimp only; omega)) (fun c62 => absurd c62 (by first | omega | (dsimp only; omega))) (fun c62 => ?_)
  refine Ex_aload_n dX9_init_65 rfl rfl ?_
  refine Ex_getf dX9_init_66 rfl (by first | exact kh_1 _ _ _ _ | exact kh_2 _ _ _ _) rfl (by rcases ht with rfl | rfl <;> rfl) rfl ?_
  refine Ex_iload_n dX9_init_69 rfl rfl ?_
  refine Ex_dup2 dX9_init_70 rfl rfl rfl ?_
  refine Ex_iald dX9_init_71 rfl (by first | exact kh_1 _ _ _ _ | exact kh_2 _ _ _ _) (by first | omega | (dsimp only; omega)) rfl ?_
  refine Ex_iconst dX9_init_72 rfl ?_
  refine Ex_imul dX9_init_73 rfl ?_
  refine Ex_iast (fs2 := [_, _, _, _, _, _, _, _]) dX9_init_74 rfl (by first | exact kh_1 _ _ _ _ | exact kh_2 _ _ _ _) (by first | omega | (dsimp only; omega)) (Nat.le_of_ble_eq_true rfl) (by omega) rfl ?_
  first | rw [kh_p1] | rw [kh_p2] | skip
  refine Ex_iinc (L2 := [_, _, _]) dX9_init_75 rfl rfl rfl ?_
  refine Ex_goto (t := 59) dX9_init_78 rfl ?_
  refine Ex_iload_n dX9_init_59 rfl rfl ?_
  refine Ex_bipush dX9_init_60 rfl (by decide) ?_
  refine Ex_icmp_ge (t := 81) dX9_init_62 rfl rfl (by first | omega | (dsimp only; omega)) (fun c62 => absurd c62 (by first | omega | (dsimp only; omega))) (fun c62 => ?_)
  refine Ex_aload_n dX9_init_65 rfl rfl ?_
  refine Ex_getf dX9_init_66 rfl (by first | exact kh_1 _ _ _ _ | exact kh_2 _ _ _ _) rfl (by rcases ht with rfl | rfl <;> rfl) rfl ?_
  refine Ex_iload_n dX9_init_69 rfl rfl ?_
  refine Ex_dup2 dX9_init_70 rfl rfl rfl ?_
  refine Ex_iald dX9_init_71 rfl (by first | exact kh_1 _ _ _ _ | exact kh_2 _ _ _ _) (by first | omega | (dsimp only; omega)) rfl ?_
  refine Ex_iconst dX9_init_72 rfl ?_
  refine Ex_imul dX9_init_73 rfl ?_
  refine Ex_iast (fs2 := [_, _, _, _, _, _, _, _]) dX9_init_74 rfl (by first | exact kh_1 _ _ _ _ | exact kh_2 _ _ _ _) (by first | omega | (dsimp only; omega)) (Nat.le_of_ble_eq_true rfl) (by omega) rfl ?_
  first | rw [kh_p1] | rw [kh_p2] | skip
  refine Ex_iinc (L2 := [_, _, _]) dX9_init_75 rfl rfl rfl ?_
  refine Ex_goto (t := 59) dX9_init_78 rfl ?_
  refine Ex_iload_n dX9_init_59 rfl rfl ?_
  refine Ex_bipush dX9_init_60 rfl (by decide) ?_
  refine Ex_icmp_ge (t := 81) dX9_init_62 rfl rfl (by first | omega | (dsimp only; omega)) (fun c62 => absurd c62 (by first | omega | (dsimp only; omega))) (fun c62 => ?_)
  refine Ex_aload_n dX9_init_65 rfl rfl ?_
  refine Ex_getf dX9_init_66 rfl (by first | exact kh_1 _ _ _ _ | exact kh_2 _ _ _ _) rfl (by rcases ht with rfl | rfl <;> rfl) rfl ?_
  refine Ex_iload_n dX9_init_69 rfl rfl ?_
  refine Ex_dup2 dX9_init_70 rfl rfl rfl ?_
  refine Ex_iald dX9_init_71 rfl (by first | exact kh_1 _ _ _ _ | exact kh_2 _ _ _ _) (by first | omega | (dsimp only; omega)) rfl ?_
  refine Ex_iconst dX9_init_72 rfl ?_
  refine Ex_imul dX9_init_73 rfl ?_
  refine Ex_iast (fs2 := [_, _, _, _, _, _, _, _]) dX9_init_74 rfl (by first | exact kh_1 _ _ _ _ | exact kh_2 _ _ _ _) (by first | omega | (dsimp only; omega)) (Nat.le_of_ble_eq_true rfl) (by omega) rfl ?_
  first | rw [kh_p1] | rw [kh_p2] | skip
  refine Ex_iinc (L2 := [_, _, _]) dX9_init_75 rfl rfl rfl ?_
  refine Ex_goto (t := 59) dX9_init_78 rfl ?_
  refine Ex_iload_n dX9_init_59 rfl rfl ?_
  refine Ex_bipush dX9_init_60 rfl (by decide) ?_
  refine Ex_icmp_ge (t := 81) dX9_init_62 rfl rfl (by first | omega | (dsimp only; omega)) (fun c62 => absurd c62 (by first | omega | (dsimp only; omega))) (fun c62 => ?_)
  refine Ex_aload_n dX9_init_65 rfl rfl ?_
  refine Ex_getf dX9_init_66 rfl (by first | exact kh_1 _ _ _ _ | exact kh_2 _ _ _ _) rfl (by rcases ht with rfl | rfl <;> rfl) rfl ?_
  refine Ex_iload_n dX9_init_69 rfl rfl ?_
  refine Ex_dup2 dX9_init_70 rfl rfl rfl ?_
  refine Ex_iald dX9_init_71 rfl (by first | exact kh_1 _ _ _ _ | exact kh_2 _ _ _ _) (by first | omega | (dsimp only; omega)) rfl ?_
  refine Ex_iconst dX9_init_72 rfl ?_
  refine Ex_imul dX9_init_73 rfl ?_
  refine Ex_iast (fs2 := [_, _, _, _, _, _, _, _]) dX9_init_74 rfl (by first | exact kh_1 _ _ _ _ | exact kh_2 _ _ _ _) (by first | omega | (dsimp only; omega)) (Nat.le_of_ble_eq_true rfl) (by omega) rfl ?_
  first | rw [kh_p1] | rw [kh_p2] | skip
  refine Ex_iinc (L2 := [_, _, _]) dX9_init_75 rfl rfl rfl ?_
  refine Ex_goto (t := 59) dX9_init_78 rfl ?_
  refine Ex_iload_n dX9_init_59 rfl rfl ?_
  refine Ex_bipush dX9_init_60 rfl (by decide) ?_
  refine Ex_icmp_ge (t := 81) dX9_init_62 rfl rfl (by first | omega | (dsimp only; omega)) (fun c62 => absurd c62 (by first | omega | (dsimp only; omega))) (fun c62 => ?_)
  refine Ex_aload_n dX9_init_65 rfl rfl ?_
  refine Ex_getf dX9_init_66 rfl (by first | exact kh_1 _ _ _ _ | exact kh_2 _ _ _ _) rfl (by rcases ht with rfl | rfl <;> rfl) rfl ?_
  refine Ex_iload_n dX9_init_69 rfl rfl ?_
  refine Ex_dup2 dX9_init_70 rfl rfl rfl ?_
  refine Ex_iald dX9_init_71 rfl (by first | exact kh_1 _ _ _ _ | exact kh_2 _ _ _ _) (by first | omega | (dsimp only; omega)) rfl ?_
  refine Ex_iconst dX9_init_72 rfl ?_
  refine Ex_imul dX9_init_73 rfl ?_
  refine Ex_iast (fs2 := [_, _, _, _, _, _, _, _]) dX9_init_74 rfl (by first | exact kh_1 _ _ _ _ | exact kh_2 _ _ _ _) (by first | omega | (dsimp only; omega)) (Nat.le_of_ble_eq_true rfl) (by omega) rfl ?_
  first | rw [kh_p1] | rw [kh_p2] | skip
  refine Ex_iinc (L2 := [_, _, _]) dX9_init_75 rfl rfl rfl ?_
  refine Ex_goto (t := 59) dX9_init_78 rfl ?_
  refine Ex_iload_n dX9_init_59 rfl rfl ?_
  refine Ex_bipush dX9_init_60 rfl (by decide) ?_
  refine Ex_icmp_ge (t := 81) dX9_init_62 rfl rfl (by first | omega | (dsimp only; omega)) (fun c62 => absurd c62 (by first | omega | (dsimp only; omega))) (fun c62 => ?_)
  refine Ex_aload_n dX9_init_65 rfl rfl ?_
  refine Ex_getf dX9_init_66 rfl (by first | exact kh_1 _ _ _ _ | exact kh_2 _ _ _ _) rfl (by rcases ht with rfl | rfl <;> rfl) rfl ?_
  refine Ex_iload_n dX9_init_69 rfl rfl ?_
  refine Ex_dup2 dX9_init_70 rfl rfl rfl ?_
  refine Ex_iald dX9_init_71 rfl (by first | exact kh_1 _ _ _ _ | exact kh_2 _ _ _ _) (by first | omega | (dsimp only; omega)) rfl ?_
  refine Ex_iconst dX9_init_72 rfl ?_
  refine Ex_imul dX9_init_73 rfl ?_
  refine Ex_iast (fs2 := [_, _, _, _, _, _, _, _]) dX9_init_74 rfl (by first | exact kh_1 _ _ _ _ | exact kh_2 _ _ _ _) (by first | omega | (dsimp only; omega)) (Nat.le_of_ble_eq_true rfl) (by omega) rfl ?_
  first | rw [kh_p1] | rw [kh_p2] | skip
  refine Ex_iinc (L2 := [_, _, _]) dX9_init_75 rfl rfl rfl ?_
  refine Ex_goto (t := 59) dX9_init_78 rfl ?_
  refine Ex_iload_n dX9_init_59 rfl rfl ?_
  refine Ex_bipush dX9_init_60 rfl (by decide) ?_
  refine Ex_icmp_ge (t := 81) dX9_init_62 rfl rfl (by first | omega | (dsimp only; omega)) (fun c62 => ?_) (fun c62 => absurd c62 (by first | omega | (dsimp only; omega)))
  refine Ex_vret dX9_init_81 rfl ?_
  exact ⟨rfl, rfl⟩
theorem x10_init {E : am_E} {d : Nat} {h : Hp} {a t : Nat} {f : Int}  (hp : h.1 a = some (t, kd)) (hB : E.2 ≤ a) (hnx : h.2.1 = a + 1) (ht : t = 10) (hf : 0 ≤ f ∧ f ≤ 9)  : Ex E (d + 2) mX10_init 0 [.ref a, .int (i32 f), .retAddr 0] [] h (fun r h1 => r = none ∧ h1 = kh h a (t, [.int (i32 f), .int (i32 3), .int (i32 3), .int (i32 3), .int (i32 5), .int (i32 1), .int (i32 (5 * 2)), .ref (a + 1)]) (20, kn (fun s => s + 4 + f / 4))) := by
  have hta : t = 0 ∨ t = 1 ∨ t = 2 ∨ t = 3 ∨ t = 4 ∨ t = 6 ∨ t = 9 ∨ t = 10 := by omega
  obtain ⟨hty, hct⟩ := kt_facts hta
  have hpf := kt_pf2 mX10_init hta
  refine Ex_aload_n dX10_init_0 rfl rfl ?_
  refine Ex_iload_n dX10_init_1 rfl rfl ?_
  refine Ex_spec dX10_init_2 rfl rfl rfl rfl rfl rfl rfl rfl (Ex_post (x1_init hp hB hnx (by omega)) ?_)
  rintro _ _ ⟨rfl, rfl⟩
  refine Ex_aload_n dX10_init_5 rfl rfl ?_
  refine Ex_iconst dX10_init_6 rfl ?_
  refine Ex_putf (fs2 := [_, _, _, _, _, _, _, _]) dX10_init_7 rfl (by first | exact kh_1 _ _ _ _ | exact kh_2 _ _ _ _) rfl (by subst ht; rfl) (hpf _ (by decide) (by decide)) (by rw [hty]; rfl) (by rw [hty]; rfl) (by omega) rfl ?_
  first | rw [kh_p1] | rw [kh_p2] | skip
  refine Ex_aload_n dX10_init_10 rfl rfl ?_
  refine Ex_iconst dX10_init_11 rfl ?_
  refine Ex_putf (fs2 := [_, _, _, _, _, _, _, _]) dX10_init_12 rfl (by first | exact kh_1 _ _ _ _ | exact kh_2 _ _ _ _) rfl (by subst ht; rfl) (hpf _ (by decide) (by decide)) (by rw [hty]; rfl) (by rw [hty]; rfl) (by omega) rfl ?_
  first | rw [kh_p1] | rw [kh_p2] | skip
  refine Ex_aload_n dX10_init_15 rfl rfl ?_
  refine Ex_dup dX10_init_16 rfl rfl ?_
  refine Ex_getf dX10_init_17 rfl (by first | exact kh_1 _ _ _ _ | exact kh_2 _ _ _ _) rfl (by subst ht; rfl) rfl ?_
  refine Ex_iconst dX10_init_20 rfl ?_
  refine Ex_imul dX10_init_21 rfl ?_
  refine Ex_putf (fs2 := [_, _, _, _, _, _, _, _]) dX10_init_22 rfl (by first | exact kh_1 _ _ _ _ | exact kh_2 _ _ _ _) rfl (by subst ht; rfl) (hpf _ (by decide) (by decide)) (by rw [hty]; rfl) (by rw [hty]; rfl) (by omega) rfl ?_
  first | rw [kh_p1] | rw [kh_p2] | skip
  refine Ex_iconst dX10_init_25 rfl ?_
  refine Ex_istore_n (L2 := [_, _, _]) dX10_init_26 rfl rfl rfl ?_
  refine Ex_iload_n dX10_init_27 rfl rfl ?_
  refine Ex_bipush dX10_init_28 rfl (by decide) ?_
  refine Ex_icmp_ge (t := 51) dX10_init_30 rfl rfl (by first | omega | (dsimp only; omega)) (fun c30 => absurd c30 (by first | omega | (dsimp only; omega))) (fun c30 => ?_)
  refine Ex_aload_n dX10_init_33 rfl rfl ?_
  refine Ex_getf dX10_init_34 rfl (by first | exact kh_1 _ _ _ _ | exact kh_2 _ _ _ _) rfl (by subst ht; rfl) rfl ?_
  refine Ex_iload_n dX10_init_37 rfl rfl ?_
  refine Ex_dup2 dX10_init_38 rfl rfl rfl ?_
  refine Ex_iald dX10_init_39 rfl (by first | exact kh_1 _ _ _ _ | exact kh_2 _ _ _ _) (by first | omega | (dsimp only; omega)) rfl ?_
  refine Ex_iload_n dX10_init_40 rfl rfl ?_
  refine Ex_iconst dX10_init_41 rfl ?_
  refine Ex_idiv dX10_init_42 rfl (by first | omega | (dsimp only; omega)) (by first | omega | (dsimp only; omega)) ?_
  refine Ex_iadd dX10_init_43 rfl ?_
  refine Ex_iast (fs2 := [_, _, _, _, _, _, _, _]) dX10_init_44 rfl (by first | exact kh_1 _ _ _ _ | exact kh_2 _ _ _ _) (by first | omega | (dsimp only; omega)) (Nat.le_of_ble_eq_true rfl) (by omega) rfl ?_
  first | rw [kh_p1] | rw [kh_p2] | skip
  refine Ex_iinc (L2 := [_, _, _]) dX10_init_45 rfl rfl rfl ?_
  refine Ex_goto (t := 27) dX10_init_48 rfl ?_
  refine Ex_iload_n dX10_init_27 rfl rfl ?_
  refine Ex_bipush dX10_init_28 rfl (by decide) ?_
  refine Ex_icmp_ge (t := 51) dX10_init_30 rfl rfl (by first | omega | (dsimp only; omega)) (fun c30 => absurd c30 (by first | omega | (dsimp only; omega))) (fun c30 => ?_)
  refine Ex_aload_n dX10_init_33 rfl rfl ?_
  refine Ex_getf dX10_init_34 rfl (by first | exact kh_1 _ _ _ _ | exact kh_2 _ _ _ _) rfl (by subst ht; rfl) rfl ?_
  refine Ex_iload_n dX10_init_37 rfl rfl ?_
  refine Ex_dup2 dX10_init_38 rfl rfl rfl ?_
  refine Ex_iald dX10_init_39 rfl (by first | exact kh_1 _ _ _ _ | exact kh_2 _ _ _ _) (by first | omega | (dsimp only; omega)) rfl ?_
  refine Ex_iload_n dX10_init_40 rfl rfl ?_
  refine Ex_iconst dX10_init_41 rfl ?_
  refine Ex_idiv dX10_init_42 rfl (by first | omega | (dsimp only; omega)) (by first | omega | (dsimp only; omega)) ?_
  refine Ex_iadd dX10_init_43 rfl ?_
  refine Ex_iast (fs2 := [_, _, _, _, _, _, _, _]) dX10_init_44 rfl (by first | exact kh_1 _ _ _ _ | exact kh_2 _ _ _ _) (by first | omega | (dsimp only; omega)) (Nat.le_of_ble_eq_true rfl) (by omega) rfl ?_
  first | rw [kh_p1] | rw [kh_p2] | skip
  refine Ex_iinc (L2 := [_, _, _]) dX10_init_45 rfl rfl rfl ?_
  refine Ex_goto (t := 27) dX10_init_48 rfl ?_
  refine Ex_iload_n dX10_init_27 rfl rfl ?_
  refine Ex_bipush dX10_init_28 rfl (by decide) ?_
  refine Ex_icmp_ge (t := 51) dX10_init_30 rfl rfl (by first | omega | (dsimp only; omega)) (fun c30 => absurd c30 (by first | omega | (dsimp only; omega))) (fun c30 => ?_)
  refine Ex_aload_n dX10_init_33 rfl rfl ?_
  refine Ex_getf dX10_init_34 rfl (by first | exact kh_1 _ _ _ _ | exact kh_2 _ _ _ _) rfl (by subst ht; rfl) rfl ?_
  refine Ex_iload_n dX10_init_37 rfl rfl ?_
  refine Ex_dup2 dX10_init_38 rfl rfl rfl ?_
  refine Ex_iald dX10_init_39 rfl (by first | exact kh_1 _ _ _ _ | exact kh_2 _ _ _ _) (by first | omega | (dsimp only; omega)) rfl ?_
  refine Ex_iload_n dX10_init_40 rfl rfl ?_
  refine Ex_iconst dX10_init_41 rfl ?_
  refine Ex_idiv dX10_init_42 rfl (by first | omega | (dsimp only; omega)) (by first | omega | (dsimp only; omega)) ?_
  refine Ex_iadd dX10_init_43 rfl ?_
  refine Ex_iast (fs2 := [_, _, _, _, _, _, _, _]) dX10_init_44 rfl (by first | exact kh_1 _ _ _ _ | exact kh_2 _ _ _ _) (by first | omega | (dsimp only; omega)) (Nat.le_of_ble_eq_true rfl) (by omega) rfl ?_
  first | rw [kh_p1] | rw [kh_p2] | skip
  refine Ex_iinc (L2 := [_, _, _]) dX10_init_45 rfl rfl rfl ?_
  refine Ex_goto (t := 27) dX10_init_48 rfl ?_
  refine Ex_iload_n dX10_init_27 rfl rfl ?_
  refine Ex_bipush dX10_init_28 rfl (by decide) ?_
  refine Ex_icmp_ge (t := 51) dX10_init_30 rfl rfl (by first | omega | (dsimp only; omega)) (fun c30 => absurd c30 (by first | omega | (dsimp only; omega))) (fun c30 => ?_)
  refine Ex_aload_n dX10_init_33 rfl rfl ?_
  refine Ex_getf dX10_init_34 rfl (by first | exact kh_1 _ _ _ _ | exact kh_2 _ _ _ _) rfl (by subst ht; rfl) rfl ?_
  refine Ex_iload_n dX10_init_37 rfl rfl ?_
  refine Ex_dup2 dX10_init_38 rfl rfl rfl ?_
  refine Ex_iald dX10_init_39 rfl (by first | exact kh_1 _ _ _ _ | exact kh_2 _ _ _ _) (by first | omega | (dsimp only; omega)) rfl ?_
  refine Ex_iload_n dX10_init_40 rfl rfl ?_
  refine Ex_iconst dX10_init_41 rfl ?_
  refine Ex_idiv dX10_init_42 rfl (by first | omega | (dsimp only; omega)) (by first | omega | (dsimp only; omega)) ?_
  refine Ex_iadd dX10_init_43 rfl ?_
  refine Ex_iast (fs2 := [_, _, _, _, _, _, _, _]) dX10_init_44 rfl (by first | exact kh_1 _ _ _ _ | exact kh_2 _ _ _ _) (by first | omega | (dsimp only; omega)) (Nat.le_of_ble_eq_true rfl) (by omega) rfl ?_
  first | rw [kh_p1] | rw [kh_p2] | skip
  refine Ex_iinc (L2 := [_, _, _]) dX10_init_45 rfl rfl rfl ?_
  refine Ex_goto (t := 27) dX10_init_48 rfl ?_
  refine Ex_iload_n dX10_init_27 rfl rfl ?_
  refine Ex_bipush dX10_init_28 rfl (by decide) ?_
  refine Ex_icmp_ge (t := 51) dX10_init_30 rfl rfl (by first | omega | (dsimp only; omega)) (fun c30 => absurd c30 (by first | omega | (dsimp only; omega))) (fun c30 => ?_)
  refine Ex_aload_n dX10_init_33 rfl rfl ?_
  refine Ex_getf dX10_init_34 rfl (by first | exact kh_1 _ _ _ _ | exact kh_2 _ _ _ _) rfl (by subst ht; rfl) rfl ?_
  refine Ex_iload_n dX10_init_37 rfl rfl ?_
  refine Ex_dup2 dX10_init_38 rfl rfl rfl ?_
  refine Ex_iald dX10_init_39 rfl (by first | exact kh_1 _ _ _ _ | exact kh_2 _ _ _ _) (by first | omega | (dsimp only; omega)) rfl ?_
  refine Ex_iload_n dX10_init_40 rfl rfl ?_
  refine Ex_iconst dX10_init_41 rfl ?_
  refine Ex_idiv dX10_init_42 rfl (by first | omega | (dsimp only; omega)) (by first | omega | (dsimp only; omega)) ?_
  refine Ex_iadd dX10_init_43 rfl ?_
  refine Ex_iast (fs2 := [_, _, _, _, _, _, _, _]) dX10_init_44 rfl (by first | exact kh_1 _ _ _ _ | exact kh_2 _ _ _ _) (by first | omega | (dsimp only; omega)) (Nat.le_of_ble_eq_true rfl) (by omega) rfl ?_
  first | rw [kh_p1] | rw [kh_p2] | skip
  refine Ex_iinc (L2 := [_, _, _]) dX10_init_45 rfl rfl rfl ?_
  refine Ex_goto (t := 27) dX10_init_48 rfl ?_
  refine Ex_iload_n dX10_init_27 rfl rfl ?_
  refine Ex_bipush dX10_init_28 rfl (by decide) ?_
  refine Ex_icmp_ge (t := 51) dX10_init_30 rfl rfl (by first | omega | (dsimp only; omega)) (fun c30 => absurd c30 (by first | omega | (dsimp only; omega))) (fun c30 => ?_)
  refine Ex_aload_n dX10_init_33 rfl rfl ?_
  refine Ex_getf dX10_init_34 rfl (by first | exact kh_1 _ _ _ _ | exact kh_2 _ _ _ _) rfl (by subst ht; rfl) rfl ?_
  refine Ex_iload_n dX10_init_37 rfl rfl ?_
  refine Ex_dup2 dX10_init_38 rfl rfl rfl ?_
  refine Ex_iald dX10_init_39 rfl (by first | exact kh_1 _ _ _ _ | exact kh_2 _ _ _ _) (by first | omega | (dsimp only; omega)) rfl ?_
  refine Ex_iload_n dX10_init_40 rfl rfl ?_
  refine Ex_iconst dX10_init_41 rfl ?_
  refine Ex_idiv dX10_init_42 rfl (by first | omega | (dsimp only; omega)) (by first | omega | (dsimp only; omega)) ?_
  refine Ex_iadd dX10_init_43 rfl ?_
  refine Ex_iast (fs2 := [_, _, _, _, _, _, _, _]) dX10_init_44 rfl (by first | exact kh_1 _ _ _ _ | exact kh_2 _ _ _ _) (by first | omega | (dsimp only; omega)) (Nat.le_of_ble_eq_true rfl) (by omega) rfl ?_
  first | rw [kh_p1] | rw [kh_p2] | skip
  refine Ex_iinc (L2 := [_, _, _]) dX10_init_45 rfl rfl rfl ?_
  refine Ex_goto (t := 27) dX10_init_48 rfl ?_
  refine Ex_iload_n dX10_init_27 rfl rfl ?_
  refine Ex_bipush dX10_init_28 rfl (by decide) ?_
  refine Ex_icmp_ge (t := 51) dX10_init_30 rfl rfl (by first | omega | (dsimp only; omega)) (fun c30 => absurd c30 (by first | omega | (dsimp only; omega))) (fun c30 => ?_)
  refine Ex_aload_n dX10_init_33 rfl rfl ?_
  refine Ex_getf dX10_init_34 rfl (by first | exact kh_1 _ _ _ _ | exact kh_2 _ _ _ _) rfl (by subst ht; rfl) rfl ?_
  refine Ex_iload_n dX10_init_37 rfl rfl ?_
  refine Ex_dup2 dX10_init_38 rfl rfl rfl ?_
  refine Ex_iald dX10_init_39 rfl (by first | exact kh_1 _ _ _ _ | exact kh_2 _ _ _ _) (by first | omega | (dsimp only; omega)) rfl ?_
  refine Ex_iload_n dX10_init_40 rfl rfl ?_
  refine Ex_iconst dX10_init_41 rfl ?_
  refine Ex_idiv dX10_init_42 rfl (by first | omega | (dsimp only; omega)) (by first | omega | (dsimp only; omega)) ?_
  refine Ex_iadd dX10_init_43 rfl ?_
  refine Ex_iast (fs2 := [_, _, _, _, _, _, _, _]) dX10_init_44 rfl (by first | exact kh_1 _ _ _ _ | exact kh_2 _ _ _ _) (by first | omega | (dsimp only; omega)) (Nat.le_of_ble_eq_true rfl) (by omega) rfl ?_
  first | rw [kh_p1] | rw [kh_p2] | skip
  refine Ex_iinc (L2 := [_, _, _]) dX10_init_45 rfl rfl rfl ?_
  refine Ex_goto (t := 27) dX10_init_48 rfl ?_
  refine Ex_iload_n dX10_init_27 rfl rfl ?_
  refine Ex_bipush dX10_init_28 rfl (by decide) ?_
  refine Ex_icmp_ge (t := 51) dX10_init_30 rfl rfl (by first | omega | (dsimp only; omega)) (fun c30 => ?_) (fun c30 => absurd c30 (by first | omega | (dsimp only; omega)))
  refine Ex_vret dX10_init_51 rfl ?_
  exact ⟨rfl, rfl⟩
theorem x6_init {E : am_E} {d : Nat} {h : Hp} {a t : Nat} {f : Int}  (hp : h.1 a = some (t, kd)) (hB : E.2 ≤ a) (hnx : h.2.1 = a + 1) (ht : t = 6) (hf : 0 ≤ f ∧ f ≤ 9)  : Ex E (d + 3) mX6_init 0 [.ref a, .int (i32 f)] [] h (fun r h1 => r = none ∧ h1 = kh h a (t, [.int (i32 f), .int (i32 4), .int (i32 (2 - 1)), .int (i32 0), .int (i32 (5 + f)), .int (i32 (1 + 1)), .int (i32 (5 + f - 1)), .ref (a + 1)]) (20, kn (fun s => s + 4 - 2))) := by
  have hta : t = 0 ∨ t = 1 ∨ t = 2 ∨ t = 3 ∨ t = 4 ∨ t = 6 ∨ t = 9 ∨ t = 10 := by omega
  obtain ⟨hty, hct⟩ := kt_facts hta
  have hpf := kt_pf2 mX6_init hta
  refine Ex_aload_n dX6_init_0 rfl rfl ?_
  refine Ex_iload_n dX6_init_1 rfl rfl ?_
  refine Ex_spec dX6_init_2 rfl rfl rfl rfl rfl rfl rfl rfl (Ex_post (x0_init hp hB hnx (by omega) hf) ?_)
  rintro _ _ ⟨rfl, rfl⟩
  refine Ex_aload_n dX6_init_5 rfl rfl ?_
  refine Ex_iconst dX6_init_6 rfl ?_
  refine Ex_putf (fs2 := [_, _, _, _, _, _, _, _]) dX6_init_7 rfl (by first | exact kh_1 _ _ _ _ | exact kh_2 _ _ _ _) rfl (by subst ht; rfl) (hpf _ (by decide) (by decide)) (by rw [hty]; rfl) (by rw [hty]; rfl) (by omega) rfl ?_
  first | rw [kh_p1] | rw [kh_p2] | skip
  refine Ex_aload_n dX6_init_10 rfl rfl ?_
  refine Ex_iconst dX6_init_11 rfl ?_
  refine Ex_putf (fs2 := [_, _, _, _, _, _, _, _]) dX6_init_12 rfl (by first | exact kh_1 _ _ _ _ | exact kh_2 _ _ _ _) rfl (by subst ht; rfl) (hpf _ (by decide) (by decide)) (by rw [hty]; rfl) (by rw [hty]; rfl) (by omega) rfl ?_
  first | rw [kh_p1] | rw [kh_p2] | skip
  refine Ex_aload_n dX6_init_15 rfl rfl ?_
  refine Ex_dup dX6_init_16 rfl rfl ?_
  refine Ex_getf dX6_init_17 rfl (by first | exact kh_1 _ _ _ _ | exact kh_2 _ _ _ _) rfl (by subst ht; rfl) rfl ?_
  refine Ex_iconst dX6_init_20 rfl ?_
  refine Ex_iadd dX6_init_21 rfl ?_
  refine Ex_putf (fs2 := [_, _, _, _, _, _, _, _]) dX6_init_22 rfl (by first | exact kh_1 _ _ _ _ | exact kh_2 _ _ _ _) rfl (by subst ht; rfl) (hpf _ (by decide) (by decide)) (by rw [hty]; rfl) (by rw [hty]; rfl) (by omega) rfl ?_
  first | rw [kh_p1] | rw [kh_p2] | skip
  refine Ex_aload_n dX6_init_25 rfl rfl ?_
  refine Ex_dup dX6_init_26 rfl rfl ?_
  refine Ex_getf dX6_init_27 rfl (by first | exact kh_1 _ _ _ _ | exact kh_2 _ _ _ _) rfl (by subst ht; rfl) rfl ?_
  refine Ex_iconst dX6_init_30 rfl ?_
  refine Ex_isub dX6_init_31 rfl ?_
  refine Ex_putf (fs2 := [_, _, _, _, _, _, _, _]) dX6_init_32 rfl (by first | exact kh_1 _ _ _ _ | exact kh_2 _ _ _ _) rfl (by subst ht; rfl) (hpf _ (by decide) (by decide)) (by rw [hty]; rfl) (by rw [hty]; rfl) (by omega) rfl ?_
  first | rw [kh_p1] | rw [kh_p2] | skip
  refine Ex_vret dX6_init_35 rfl ?_
  exact ⟨rfl, rfl⟩
theorem x4_init {E : am_E} {d : Nat} {h : Hp} {a t : Nat} {f : Int}  (hp : h.1 a = some (t, kd)) (hB : E.2 ≤ a) (hnx : h.2.1 = a + 1) (ht : t = 4) (hf : 0 ≤ f ∧ f ≤ 9)  : Ex E (d + 3) mX4_init 0 [.ref a, .int (i32 f)] [] h (fun r h1 => r = none ∧ h1 = kh h a (t, [.int (i32 f), .int (i32 5), .int (i32 (2 - 1)), .int (i32 (3 - 1)), .int (i32 (5 + f)), .int (i32 (1 + 2)), .int (i32 (5 + f + 4)), .ref (a + 1)]) (20, kn (fun s => s + 4 - 2))) := by
  have hta : t = 0 ∨ t = 1 ∨ t = 2 ∨ t = 3 ∨ t = 4 ∨ t = 6 ∨ t = 9 ∨ t = 10 := by omega
  obtain ⟨hty, hct⟩ := kt_facts hta
  have hpf := kt_pf2 mX4_init hta
  refine Ex_aload_n dX4_init_0 rfl rfl ?_
  refine Ex_iload_n dX4_init_1 rfl rfl ?_
  refine Ex_spec dX4_init_2 rfl rfl rfl rfl rfl rfl rfl rfl (Ex_post (x0_init hp hB hnx (by omega) hf) ?_)
  rintro _ _ ⟨rfl, rfl⟩
  refine Ex_aload_n dX4_init_5 rfl rfl ?_
  refine Ex_iconst dX4_init_6 rfl ?_
  refine Ex_putf (fs2 := [_, _, _, _, _, _, _, _]) dX4_init_7 rfl (by first | exact kh_1 _ _ _ _ | exact kh_2 _ _ _ _) rfl (by subst ht; rfl) (hpf _ (by decide) (by decide)) (by rw [hty]; rfl) (by rw [hty]; rfl) (by omega) rfl ?_
  first | rw [kh_p1] | rw [kh_p2] | skip
  refine Ex_aload_n dX4_init_10 rfl rfl ?_
  refine Ex_dup dX4_init_11 rfl rfl ?_
  refine Ex_getf dX4_init_12 rfl (by first | exact kh_1 _ _ _ _ | exact kh_2 _ _ _ _) rfl (by subst ht; rfl) rfl ?_
  refine Ex_iconst dX4_init_15 rfl ?_
  refine Ex_iadd dX4_init_16 rfl ?_
  refine Ex_putf (fs2 := [_, _, _, _, _, _, _, _]) dX4_init_17 rfl (by first | exact kh_1 _ _ _ _ | exact kh_2 _ _ _ _) rfl (by subst ht; rfl) (hpf _ (by decide) (by decide)) (by rw [hty]; rfl) (by rw [hty]; rfl) (by omega) rfl ?_
  first | rw [kh_p1] | rw [kh_p2] | skip
  refine Ex_aload_n dX4_init_20 rfl rfl ?_
  refine Ex_dup dX4_init_21 rfl rfl ?_
  refine Ex_getf dX4_init_22 rfl (by first | exact kh_1 _ _ _ _ | exact kh_2 _ _ _ _) rfl (by subst ht; rfl) rfl ?_
  refine Ex_iconst dX4_init_25 rfl ?_
  refine Ex_iadd dX4_init_26 rfl ?_
  refine Ex_putf (fs2 := [_, _, _, _, _, _, _, _]) dX4_init_27 rfl (by first | exact kh_1 _ _ _ _ | exact kh_2 _ _ _ _) rfl (by subst ht; rfl) (hpf _ (by decide) (by decide)) (by rw [hty]; rfl) (by rw [hty]; rfl) (by omega) rfl ?_
  first | rw [kh_p1] | rw [kh_p2] | skip
  refine Ex_vret dX4_init_30 rfl ?_
  exact ⟨rfl, rfl⟩
theorem x2_init {E : am_E} {d : Nat} {h : Hp} {a t : Nat} {f : Int}  (hp : h.1 a = some (t, kd)) (hB : E.2 ≤ a) (hnx : h.2.1 = a + 1) (ht : t = 2) (hf : 0 ≤ f ∧ f ≤ 9)  : Ex E (d + 3) mX2_init 0 [.ref a, .int (i32 f), .retAddr 0] [] h (fun r h1 => r = none ∧ h1 = kh h a (t, [.int (i32 f), .int (i32 6), .int (i32 (2 + 1 + f / 3)), .int (i32 ((3 + f / 2) * 2)), .int (i32 (5 - 1)), .int (i32 0), .int (i32 (5 - 2 + f)), .ref (a + 1)]) (20, kn (fun s => (s + 4) * 2 - 1))) := by
  have hta : t = 0 ∨ t = 1 ∨ t = 2 ∨ t = 3 ∨ t = 4 ∨ t = 6 ∨ t = 9 ∨ t = 10 := by omega
  obtain ⟨hty, hct⟩ := kt_facts hta
  have hpf := kt_pf2 mX2_init hta
  refine Ex_aload_n dX2_init_0 rfl rfl ?_
  refine Ex_iload_n dX2_init_1 rfl rfl ?_
  refine Ex_spec dX2_init_2 rfl rfl rfl rfl rfl rfl rfl rfl (Ex_post (x9_init hp hB hnx (by omega) hf) ?_)
  rintro _ _ ⟨rfl, rfl⟩
  refine Ex_aload_n dX2_init_5 rfl rfl ?_
  refine Ex_bipush dX2_init_6 rfl (by decide) ?_
  refine Ex_putf (fs2 := [_, _, _, _, _, _, _, _]) dX2_init_8 rfl (by first | exact kh_1 _ _ _ _ | exact kh_2 _ _ _ _) rfl (by subst ht; rfl) (hpf _ (by decide) (by decide)) (by rw [hty]; rfl) (by rw [hty]; rfl) (by omega) rfl ?_
  first | rw [kh_p1] | rw [kh_p2] | skip
  refine Ex_aload_n dX2_init_11 rfl rfl ?_
  refine Ex_dup dX2_init_12 rfl rfl ?_
  refine Ex_getf dX2_init_13 rfl (by first | exact kh_1 _ _ _ _ | exact kh_2 _ _ _ _) rfl (by subst ht; rfl) rfl ?_
  refine Ex_iload_n dX2_init_16 rfl rfl ?_
  refine Ex_iconst dX2_init_17 rfl ?_
  refine Ex_idiv dX2_init_18 rfl (by first | omega | (dsimp only; omega)) (by first | omega | (dsimp only; omega)) ?_
  refine Ex_iadd dX2_init_19 rfl ?_
  refine Ex_putf (fs2 := [_, _, _, _, _, _, _, _]) dX2_init_20 rfl (by first | exact kh_1 _ _ _ _ | exact kh_2 _ _ _ _) rfl (by subst ht; rfl) (hpf _ (by decide) (by decide)) (by rw [hty]; rfl) (by rw [hty]; rfl) (by omega) rfl ?_
  first | rw [kh_p1] | rw [kh_p2] | skip
  refine Ex_aload_n dX2_init_23 rfl rfl ?_
  refine Ex_dup dX2_init_24 rfl rfl ?_
  refine Ex_getf dX2_init_25 rfl (by first | exact kh_1 _ _ _ _ | exact kh_2 _ _ _ _) rfl (by subst ht; rfl) rfl ?_
  refine Ex_iconst dX2_init_28 rfl ?_
  refine Ex_imul dX2_init_29 rfl ?_
  refine Ex_putf (fs2 := [_, _, _, _, _, _, _, _]) dX2_init_30 rfl (by first | exact kh_1 _ _ _ _ | exact kh_2 _ _ _ _) rfl (by subst ht; rfl) (hpf _ (by decide) (by decide)) (by rw [hty]; rfl) (by rw [hty]; rfl) (by omega) rfl ?_
  first | rw [kh_p1] | rw [kh_p2] | skip
  refine Ex_aload_n dX2_init_33 rfl rfl ?_
  refine Ex_dup dX2_init_34 rfl rfl ?_
  refine Ex_getf dX2_init_35 rfl (by first | exact kh_1 _ _ _ _ | exact kh_2 _ _ _ _) rfl (by subst ht; rfl) rfl ?_
  refine Ex_iload_n dX2_init_38 rfl rfl ?_
  refine Ex_iadd dX2_init_39 rfl ?_
  refine Ex_putf (fs2 := [_, _, _, _, _, _, _, _]) dX2_init_40 rfl (by first | exact kh_1 _ _ _ _ | exact kh_2 _ _ _ _) rfl (by subst ht; rfl) (hpf _ (by decide) (by decide)) (by rw [hty]; rfl) (by rw [hty]; rfl) (by omega) rfl ?_
  first | rw [kh_p1] | rw [kh_p2] | skip
  refine Ex_iconst dX2_init_43 rfl ?_
  refine Ex_istore_n (L2 := [_, _, _]) dX2_init_44 rfl rfl rfl ?_
  refine Ex_iload_n dX2_init_45 rfl rfl ?_
  refine Ex_bipush dX2_init_46 rfl (by decide) ?_
  refine Ex_icmp_ge (t := 67) dX2_init_48 rfl rfl (by first | omega | (dsimp only; omega)) (fun c48 => absurd c48 (by first | omega | (dsimp only; omega))) (fun c48 => ?_)
  refine Ex_aload_n dX2_init_51 rfl rfl ?_
  refine Ex_getf dX2_init_52 rfl (by first | exact kh_1 _ _ _ _ | exact kh_2 _ _ _ _) rfl (by subst ht; rfl) rfl ?_
  refine Ex_iload_n dX2_init_55 rfl rfl ?_
  refine Ex_dup2 dX2_init_56 rfl rfl rfl ?_
  refine Ex_iald dX2_init_57 rfl (by first | exact kh_1 _ _ _ _ | exact kh_2 _ _ _ _) (by first | omega | (dsimp only; omega)) rfl ?_
  refine Ex_iconst dX2_init_58 rfl ?_
  refine Ex_isub dX2_init_59 rfl ?_
  refine Ex_iast (fs2 := [_, _, _, _, _, _, _, _]) dX2_init_60 rfl (by first | exact kh_1 _ _ _ _ | exact kh_2 _ _ _ _) (by first | omega | (dsimp only; omega)) (Nat.le_of_ble_eq_true rfl) (by omega) rfl ?_
  first | rw [kh_p1] | rw [kh_p2] | skip
  refine Ex_iinc (L2 := [_, _, _]) dX2_init_61 rfl rfl rfl ?_
  refine Ex_goto (t := 45) dX2_init_64 rfl ?_
  refine Ex_iload_n dX2_init_45 rfl rfl ?_
  refine Ex_bipush dX2_init_46 rfl (by decide) ?_
  refine Ex_icmp_ge (t := 67) dX2_init_48 rfl rfl (by first | omega | (dsimp only; omega)) (fun c48 => absurd c48 (by first | omega | (dsimp only; omega))) (fun c48 => ?_)
  refine Ex_aload_n dX2_init_51 rfl rfl ?_
  refine Ex_getf dX2_init_52 rfl (by first | exact kh_1 _ _ _ _ | exact kh_2 _ _ _ _) rfl (by subst ht; rfl) rfl ?_
  refine Ex_iload_n dX2_init_55 rfl rfl ?_
  refine Ex_dup2 dX2_init_56 rfl rfl rfl ?_
  refine Ex_iald dX2_init_57 rfl (by first | exact kh_1 _ _ _ _ | exact kh_2 _ _ _ _) (by first | omega | (dsimp only; omega)) rfl ?_
  refine Ex_iconst dX2_init_58 rfl ?_
  refine Ex_isub dX2_init_59 rfl ?_
  refine Ex_iast (fs2 := [_, _, _, _, _, _, _, _]) dX2_init_60 rfl (by first | exact kh_1 _ _ _ _ | exact kh_2 _ _ _ _) (by first | omega | (dsimp only; omega)) (Nat.le_of_ble_eq_true rfl) (by omega) rfl ?_
  first | rw [kh_p1] | rw [kh_p2] | skip
  refine Ex_iinc (L2 := [_, _, _]) dX2_init_61 rfl rfl rfl ?_
  refine Ex_goto (t := 45) dX2_init_64 rfl ?_
  refine Ex_iload_n dX2_init_45 rfl rfl ?_
  refine Ex_bipush dX2_init_46 rfl (by decide) ?_
  refine Ex_icmp_ge (t := 67) dX2_init_48 rfl rfl (by first | omega | (dsimp only; omega)) (fun c48 => absurd c48 (by first | omega | (dsimp only; omega))) (fun c48 => ?_)
  refine Ex_aload_n dX2_init_51 rfl rfl ?_
  refine Ex_getf dX2_init_52 rfl (by first | exact kh_1 _ _ _ _ | exact kh_2 _ _ _ _) rfl (by subst ht; rfl) rfl ?_
  refine Ex_iload_n dX2_init_55 rfl rfl ?_
  refine Ex_dup2 dX2_init_56 rfl rfl rfl ?_
  refine Ex_iald dX2_init_57 rfl (by first | exact kh_1 _ _ _ _ | exact kh_2 _ _ _ _) (by first | omega | (dsimp only; omega)) rfl ?_
  refine Ex_iconst dX2_init_58 rfl ?_
  refine Ex_isub dX2_init_59 rfl ?_
  refine Ex_iast (fs2 := [_, _, _, _, _, _, _, _]) dX2_init_60 rfl (by first | exact kh_1 _ _ _ _ | exact kh_2 _ _ _ _) (by first | omega | (dsimp only; omega)) (Nat.le_of_ble_eq_true rfl) (by omega) rfl ?_
  first | rw [kh_p1] | rw [kh_p2] | skip
  refine Ex_iinc (L2 := [_, _, _]) dX2_init_61 rfl rfl rfl ?_
  refine Ex_goto (t := 45) dX2_init_64 rfl ?_
  refine Ex_iload_n dX2_init_45 rfl rfl ?_
  refine Ex_bipush dX2_init_46 rfl (by decide) ?_
  refine Ex_icmp_ge (t := 67) dX2_init_48 rfl rfl (by first | omega | (dsimp only; omega)) (fun c48 => absurd c48 (by first | omega | (dsimp only; omega))) (fun c48 => ?_)
  refine Ex_aload_n dX2_init_51 rfl rfl ?_
  refine Ex_getf dX2_init_52 rfl (by first | exact kh_1 _ _ _ _ | exact kh_2 _ _ _ _) rfl (by subst ht; rfl) rfl ?_
  refine Ex_iload_n dX2_init_55 rfl rfl ?_
  refine Ex_dup2 dX2_init_56 rfl rfl rfl ?_
  refine Ex_iald dX2_init_57 rfl (by first | exact kh_1 _ _ _ _ | exact kh_2 _ _ _ _) (by first | omega | (dsimp only; omega)) rfl ?_
  refine Ex_iconst dX2_init_58 rfl ?_
  refine Ex_isub dX2_init_59 rfl ?_
  refine Ex_iast (fs2 := [_, _, _, _, _, _, _, _]) dX2_init_60 rfl (by first | exact kh_1 _ _ _ _ | exact kh_2 _ _ _ _) (by first | omega | (dsimp only; omega)) (Nat.le_of_ble_eq_true rfl) (by omega) rfl ?_
  first | rw [kh_p1] | rw [kh_p2] | skip
  refine Ex_iinc (L2 := [_, _, _]) dX2_init_61 rfl rfl rfl ?_
  refine Ex_goto (t := 45) dX2_init_64 rfl ?_
  refine Ex_iload_n dX2_init_45 rfl rfl ?_
  refine Ex_bipush dX2_init_46 rfl (by decide) ?_
  refine Ex_icmp_ge (t := 67) dX2_init_48 rfl rfl (by first | omega | (dsimp only; omega)) (fun c48 => absurd c48 (by first | omega | (dsimp only; omega))) (fun c48 => ?_)
  refine Ex_aload_n dX2_init_51 rfl rfl ?_
  refine Ex_getf dX2_init_52 rfl (by first | exact kh_1 _ _ _ _ | exact kh_2 _ _ _ _) rfl (by subst ht; rfl) rfl ?_
  refine Ex_iload_n dX2_init_55 rfl rfl ?_
  refine Ex_dup2 dX2_init_56 rfl rfl rfl ?_
  refine Ex_iald dX2_init_57 rfl (by first | exact kh_1 _ _ _ _ | exact kh_2 _ _ _ _) (by first | omega | (dsimp only; omega)) rfl ?_
  refine Ex_iconst dX2_init_58 rfl ?_
  refine Ex_isub dX2_init_59 rfl ?_
  refine Ex_iast (fs2 := [_, _, _, _, _, _, _, _]) dX2_init_60 rfl (by first | exact kh_1 _ _ _ _ | exact kh_2 _ _ _ _) (by first | omega | (dsimp only; omega)) (Nat.le_of_ble_eq_true rfl) (by omega) rfl ?_
  first | rw [kh_p1] | rw [kh_p2] | skip
  refine Ex_iinc (L2 := [_, _, _]) dX2_init_61 rfl rfl rfl ?_
  refine Ex_goto (t := 45) dX2_init_64 rfl ?_
  refine Ex_iload_n dX2_init_45 rfl rfl ?_
  refine Ex_bipush dX2_init_46 rfl (by decide) ?_
  refine Ex_icmp_ge (t := 67) dX2_init_48 rfl rfl (by first | omega | (dsimp only; omega)) (fun c48 => absurd c48 (by first | omega | (dsimp only; omega))) (fun c48 => ?_)
  refine Ex_aload_n dX2_init_51 rfl rfl ?_
  refine Ex_getf dX2_init_52 rfl (by first | exact kh_1 _ _ _ _ | exact kh_2 _ _ _ _) rfl (by subst ht; rfl) rfl ?_
  refine Ex_iload_n dX2_init_55 rfl rfl ?_
  refine Ex_dup2 dX2_init_56 rfl rfl rfl ?_
  refine Ex_iald dX2_init_57 rfl (by first | exact kh_1 _ _ _ _ | exact kh_2 _ _ _ _) (by first | omega | (dsimp only; omega)) rfl ?_
  refine Ex_iconst dX2_init_58 rfl ?_
  refine Ex_isub dX2_init_59 rfl ?_
  refine Ex_iast (fs2 := [_, _, _, _, _, _, _, _]) dX2_init_60 rfl (by first | exact kh_1 _ _ _ _ | exact kh_2 _ _ _ _) (by first | omega | (dsimp only; omega)) (Nat.le_of_ble_eq_true rfl) (by omega) rfl ?_
  first | rw [kh_p1] | rw [kh_p2] | skip
  refine Ex_iinc (L2 := [_, _, _]) dX2_init_61 rfl rfl rfl ?_
  refine Ex_goto (t := 45) dX2_init_64 rfl ?_
  refine Ex_iload_n dX2_init_45 rfl rfl ?_
  refine Ex_bipush dX2_init_46 rfl (by decide) ?_
  refine Ex_icmp_ge (t := 67) dX2_init_48 rfl rfl (by first | omega | (dsimp only; omega)) (fun c48 => absurd c48 (by first | omega | (dsimp only; omega))) (fun c48 => ?_)
  refine Ex_aload_n dX2_init_51 rfl rfl ?_
  refine Ex_getf dX2_init_52 rfl (by first | exact kh_1 _ _ _ _ | exact kh_2 _ _ _ _) rfl (by subst ht; rfl) rfl ?_
  refine Ex_iload_n dX2_init_55 rfl rfl ?_
  refine Ex_dup2 dX2_init_56 rfl rfl rfl ?_
  refine Ex_iald dX2_init_57 rfl (by first | exact kh_1 _ _ _ _ | exact kh_2 _ _ _ _) (by first | omega | (dsimp only; omega)) rfl ?_
  refine Ex_iconst dX2_init_58 rfl ?_
  refine Ex_isub dX2_init_59 rfl ?_
  refine Ex_iast (fs2 := [_, _, _, _, _, _, _, _]) dX2_init_60 rfl (by first | exact kh_1 _ _ _ _ | exact kh_2 _ _ _ _) (by first | omega | (dsimp only; omega)) (Nat.le_of_ble_eq_true rfl) (by omega) rfl ?_
  first | rw [kh_p1] | rw [kh_p2] | skip
  refine Ex_iinc (L2 := [_, _, _]) dX2_init_61 rfl rfl rfl ?_
  refine Ex_goto (t := 45) dX2_init_64 rfl ?_
  refine Ex_iload_n dX2_init_45 rfl rfl ?_
  refine Ex_bipush dX2_init_46 rfl (by decide) ?_
  refine Ex_icmp_ge (t := 67) dX2_init_48 rfl rfl (by first | omega | (dsimp only; omega)) (fun c48 => ?_) (fun c48 => absurd c48 (by first | omega | (dsimp only; omega)))
  refine Ex_vret dX2_init_67 rfl ?_
  exact ⟨rfl, rfl⟩
theorem x3_init {E : am_E} {d : Nat} {h : Hp} {a t : Nat} {f : Int}  (hp : h.1 a = some (t, kd)) (hB : E.2 ≤ a) (hnx : h.2.1 = a + 1) (ht : t = 3) (hf : 0 ≤ f ∧ f ≤ 9)  : Ex E (d + 3) mX3_init 0 [.ref a, .int (i32 f), .retAddr 0] [] h (fun r h1 => r = none ∧ h1 = kh h a (t, [.int (i32 f), .int (i32 7), .int (i32 (2 - 1)), .int (i32 (3 - 1)), .int (i32 20), .int (i32 1), .int (i32 ((5 + f) / 2)), .ref (a + 1)]) (20, kn (fun s => (s + 4 - 2) / 2))) := by
  have hta : t = 0 ∨ t = 1 ∨ t = 2 ∨ t = 3 ∨ t = 4 ∨ t = 6 ∨ t = 9 ∨ t = 10 := by omega
  obtain ⟨hty, hct⟩ := kt_facts hta
  have hpf := kt_pf2 mX3_init hta
  refine Ex_aload_n dX3_init_0 rfl rfl ?_
  refine Ex_iload_n dX3_init_1 rfl rfl ?_
  refine Ex_spec dX3_init_2 rfl rfl rfl rfl rfl rfl rfl rfl (Ex_post (x0_init hp hB hnx (by omega) hf) ?_)
  rintro _ _ ⟨rfl, rfl⟩
  refine Ex_aload_n dX3_init_5 rfl rfl ?_
  refine Ex_bipush dX3_init_6 rfl (by decide) ?_
  refine Ex_putf (fs2 := [_, _, _, _, _, _, _, _]) dX3_init_8 rfl (by first | exact kh_1 _ _ _ _ | exact kh_2 _ _ _ _) rfl (by subst ht; rfl) (hpf _ (by decide) (by decide)) (by rw [hty]; rfl) (by rw [hty]; rfl) (by omega) rfl ?_
  first | rw [kh_p1] | rw [kh_p2] | skip
  refine Ex_aload_n dX3_init_11 rfl rfl ?_
  refine Ex_bipush dX3_init_12 rfl (by decide) ?_
  refine Ex_putf (fs2 := [_, _, _, _, _, _, _, _]) dX3_init_14 rfl (by first | exact kh_1 _ _ _ _ | exact kh_2 _ _ _ _) rfl (by subst ht; rfl) (hpf _ (by decide) (by decide)) (by rw [hty]; rfl) (by rw [hty]; rfl) (by omega) rfl ?_
  first | rw [kh_p1] | rw [kh_p2] | skip
  refine Ex_aload_n dX3_init_17 rfl rfl ?_
  refine Ex_dup dX3_init_18 rfl rfl ?_
  refine Ex_getf dX3_init_19 rfl (by first | exact kh_1 _ _ _ _ | exact kh_2 _ _ _ _) rfl (by subst ht; rfl) rfl ?_
  refine Ex_iconst dX3_init_22 rfl ?_
  refine Ex_idiv dX3_init_23 rfl (by first | omega | (dsimp only; omega)) (by first | omega | (dsimp only; omega)) ?_
  refine Ex_putf (fs2 := [_, _, _, _, _, _, _, _]) dX3_init_24 rfl (by first | exact kh_1 _ _ _ _ | exact kh_2 _ _ _ _) rfl (by subst ht; rfl) (hpf _ (by decide) (by decide)) (by rw [hty]; rfl) (by rw [hty]; rfl) (by omega) rfl ?_
  first | rw [kh_p1] | rw [kh_p2] | skip
  refine Ex_iconst dX3_init_27 rfl ?_
  refine Ex_istore_n (L2 := [_, _, _]) dX3_init_28 rfl rfl rfl ?_
  refine Ex_iload_n dX3_init_29 rfl rfl ?_
  refine Ex_bipush dX3_init_30 rfl (by decide) ?_
  refine Ex_icmp_ge (t := 51) dX3_init_32 rfl rfl (by first | omega | (dsimp only; omega)) (fun c32 => absurd c32 (by first | omega | (dsimp only; omega))) (fun c32 => ?_)
  refine Ex_aload_n dX3_init_35 rfl rfl ?_
  refine Ex_getf dX3_init_36 rfl (by first | exact kh_1 _ _ _ _ | exact kh_2 _ _ _ _) rfl (by subst ht; rfl) rfl ?_
  refine Ex_iload_n dX3_init_39 rfl rfl ?_
  refine Ex_dup2 dX3_init_40 rfl rfl rfl ?_
  refine Ex_iald dX3_init_41 rfl (by first | exact kh_1 _ _ _ _ | exact kh_2 _ _ _ _) (by first | omega | (dsimp only; omega)) rfl ?_
  refine Ex_iconst dX3_init_42 rfl ?_
  refine Ex_idiv dX3_init_43 rfl (by first | omega | (dsimp only; omega)) (by first | omega | (dsimp only; omega)) ?_
  refine Ex_iast (fs2 := [_, _, _, _, _, _, _, _]) dX3_init_44 rfl (by first | exact kh_1 _ _ _ _ | exact kh_2 _ _ _ _) (by first | omega | (dsimp only; omega)) (Nat.le_of_ble_eq_true rfl) (by omega) rfl ?_
  first | rw [kh_p1] | rw [kh_p2] | skip
  refine Ex_iinc (L2 := [_, _, _]) dX3_init_45 rfl rfl rfl ?_
  refine Ex_goto (t := 29) dX3_init_48 rfl ?_
  refine Ex_iload_n dX3_init_29 rfl rfl ?_
  refine Ex_bipush dX3_init_30 rfl (by decide) ?_
  refine Ex_icmp_ge (t := 51) dX3_init_32 rfl rfl (by first | omega | (dsimp only; omega)) (fun c32 => absurd c32 (by first | omega | (dsimp only; omega))) (fun c32 => ?_)
  refine Ex_aload_n dX3_init_35 rfl rfl ?_
  refine Ex_getf dX3_init_36 rfl (by first | exact kh_1 _ _ _ _ | exact kh_2 _ _ _ _) rfl (by subst ht; rfl) rfl ?_
  refine Ex_iload_n dX3_init_39 rfl rfl ?_
  refine Ex_dup2 dX3_init_40 rfl rfl rfl ?_
  refine Ex_iald dX3_init_41 rfl (by first | exact kh_1 _ _ _ _ | exact kh_2 _ _ _ _) (by first | omega | (dsimp only; omega)) rfl ?_
  refine Ex_iconst dX3_init_42 rfl ?_
  refine Ex_idiv dX3_init_43 rfl (by first | omega | (dsimp only; omega)) (by first | omega | (dsimp only; omega)) ?_
  refine Ex_iast (fs2 := [_, _, _, _, _, _, _, _]) dX3_init_44 rfl (by first | exact kh_1 _ _ _ _ | exact kh_2 _ _ _ _) (by first | omega | (dsimp only; omega)) (Nat.le_of_ble_eq_true rfl) (by omega) rfl ?_
  first | rw [kh_p1] | rw [kh_p2] | skip
  refine Ex_iinc (L2 := [_, _, _]) dX3_init_45 rfl rfl rfl ?_
  refine Ex_goto (t := 29) dX3_init_48 rfl ?_
  refine Ex_iload_n dX3_init_29 rfl rfl ?_
  refine Ex_bipush dX3_init_30 rfl (by decide) ?_
  refine Ex_icmp_ge (t := 51) dX3_init_32 rfl rfl (by first | omega | (dsimp only; omega)) (fun c32 => absurd c32 (by first | omega | (dsimp only; omega))) (fun c32 => ?_)
  refine Ex_aload_n dX3_init_35 rfl rfl ?_
  refine Ex_getf dX3_init_36 rfl (by first | exact kh_1 _ _ _ _ | exact kh_2 _ _ _ _) rfl (by subst ht; rfl) rfl ?_
  refine Ex_iload_n dX3_init_39 rfl rfl ?_
  refine Ex_dup2 dX3_init_40 rfl rfl rfl ?_
  refine Ex_iald dX3_init_41 rfl (by first | exact kh_1 _ _ _ _ | exact kh_2 _ _ _ _) (by first | omega | (dsimp only; omega)) rfl ?_
  refine Ex_iconst dX3_init_42 rfl ?_
  refine Ex_idiv dX3_init_43 rfl (by first | omega | (dsimp only; omega)) (by first | omega | (dsimp only; omega)) ?_
  refine Ex_iast (fs2 := [_, _, _, _, _, _, _, _]) dX3_init_44 rfl (by first | exact kh_1 _ _ _ _ | exact kh_2 _ _ _ _) (by first | omega | (dsimp only; omega)) (Nat.le_of_ble_eq_true rfl) (by omega) rfl ?_
  first | rw [kh_p1] | rw [kh_p2] | skip
  refine Ex_iinc (L2 := [_, _, _]) dX3_init_45 rfl rfl rfl ?_
  refine Ex_goto (t := 29) dX3_init_48 rfl ?_
  refine Ex_iload_n dX3_init_29 rfl rfl ?_
  refine Ex_bipush dX3_init_30 rfl (by decide) ?_
  refine Ex_icmp_ge (t := 51) dX3_init_32 rfl rfl (by first | omega | (dsimp only; omega)) (fun c32 => absurd c32 (by first | omega | (dsimp only; omega))) (fun c32 => ?_)
  refine Ex_aload_n dX3_init_35 rfl rfl ?_
  refine Ex_getf dX3_init_36 rfl (by first | exact kh_1 _ _ _ _ | exact kh_2 _ _ _ _) rfl (by subst ht; rfl) rfl ?_
  refine Ex_iload_n dX3_init_39 rfl rfl ?_
  refine Ex_dup2 dX3_init_40 rfl rfl rfl ?_
  refine Ex_iald dX3_init_41 rfl (by first | exact kh_1 _ _ _ _ | exact kh_2 _ _ _ _) (by first | omega | (dsimp only; omega)) rfl ?_
  refine Ex_iconst dX3_init_42 rfl ?_
  refine Ex_idiv dX3_init_43 rfl (by first | omega | (dsimp only; omega)) (by first | omega | (dsimp only; omega)) ?_
  refine Ex_iast (fs2 := [_, _, _, _, _, _, _, _]) dX3_init_44 rfl (by first | exact kh_1 _ _ _ _ | exact kh_2 _ _ _ _) (by first | omega | (dsimp only; omega)) (Nat.le_of_ble_eq_true rfl) (by omega) rfl ?_
  first | rw [kh_p1] | rw [kh_p2] | skip
  refine Ex_iinc (L2 := [_, _, _]) dX3_init_45 rfl rfl rfl ?_
  refine Ex_goto (t := 29) dX3_init_48 rfl ?_
  refine Ex_iload_n dX3_init_29 rfl rfl ?_
  refine Ex_bipush dX3_init_30 rfl (by decide) ?_
  refine Ex_icmp_ge (t := 51) dX3_init_32 rfl rfl (by first | omega | (dsimp only; omega)) (fun c32 => absurd c32 (by first | omega | (dsimp only; omega))) (fun c32 => ?_)
  refine Ex_aload_n dX3_init_35 rfl rfl ?_
  refine Ex_getf dX3_init_36 rfl (by first | exact kh_1 _ _ _ _ | exact kh_2 _ _ _ _) rfl (by subst ht; rfl) rfl ?_
  refine Ex_iload_n dX3_init_39 rfl rfl ?_
  refine Ex_dup2 dX3_init_40 rfl rfl rfl ?_
  refine Ex_iald dX3_init_41 rfl (by first | exact kh_1 _ _ _ _ | exact kh_2 _ _ _ _) (by first | omega | (dsimp only; omega)) rfl ?_
  refine Ex_iconst dX3_init_42 rfl ?_
  refine Ex_idiv dX3_init_43 rfl (by first | omega | (dsimp only; omega)) (by first | omega | (dsimp only; omega)) ?_
  refine Ex_iast (fs2 := [_, _, _, _, _, _, _, _]) dX3_init_44 rfl (by first | exact kh_1 _ _ _ _ | exact kh_2 _ _ _ _) (by first | omega | (dsimp only; omega)) (Nat.le_of_ble_eq_true rfl) (by omega) rfl ?_
  first | rw [kh_p1] | rw [kh_p2] | skip
  refine Ex_iinc (L2 := [_, _, _]) dX3_init_45 rfl rfl rfl ?_
  refine Ex_goto (t := 29) dX3_init_48 rfl ?_
  refine Ex_iload_n dX3_init_29 rfl rfl ?_
  refine Ex_bipush dX3_init_30 rfl (by decide) ?_
  refine Ex_icmp_ge (t := 51) dX3_init_32 rfl rfl (by first | omega | (dsimp only; omega)) (fun c32 => absurd c32 (by first | omega | (dsimp only; omega))) (fun c32 => ?_)
  refine Ex_aload_n dX3_init_35 rfl rfl ?_
  refine Ex_getf dX3_init_36 rfl (by first | exact kh_1 _ _ _ _ | exact kh_2 _ _ _ _) rfl (by subst ht; rfl) rfl ?_
  refine Ex_iload_n dX3_init_39 rfl rfl ?_
  refine Ex_dup2 dX3_init_40 rfl rfl rfl ?_
  refine Ex_iald dX3_init_41 rfl (by first | exact kh_1 _ _ _ _ | exact kh_2 _ _ _ _) (by first | omega | (dsimp only; omega)) rfl ?_
  refine Ex_iconst dX3_init_42 rfl ?_
  refine Ex_idiv dX3_init_43 rfl (by first | omega | (dsimp only; omega)) (by first | omega | (dsimp only; omega)) ?_
  refine Ex_iast (fs2 := [_, _, _, _, _, _, _, _]) dX3_init_44 rfl (by first | exact kh_1 _ _ _ _ | exact kh_2 _ _ _ _) (by first | omega | (dsimp only; omega)) (Nat.le_of_ble_eq_true rfl) (by omega) rfl ?_
  first | rw [kh_p1] | rw [kh_p2] | skip
  refine Ex_iinc (L2 := [_, _, _]) dX3_init_45 rfl rfl rfl ?_
  refine Ex_goto (t := 29) dX3_init_48 rfl ?_
  refine Ex_iload_n dX3_init_29 rfl rfl ?_
  refine Ex_bipush dX3_init_30 rfl (by decide) ?_
  refine Ex_icmp_ge (t := 51) dX3_init_32 rfl rfl (by first | omega | (dsimp only; omega)) (fun c32 => absurd c32 (by first | omega | (dsimp only; omega))) (fun c32 => ?_)
  refine Ex_aload_n dX3_init_35 rfl rfl ?_
  refine Ex_getf dX3_init_36 rfl (by first | exact kh_1 _ _ _ _ | exact kh_2 _ _ _ _) rfl (by subst ht; rfl) rfl ?_
  refine Ex_iload_n dX3_init_39 rfl rfl ?_
  refine Ex_dup2 dX3_init_40 rfl rfl rfl ?_
  refine Ex_iald dX3_init_41 rfl (by first | exact kh_1 _ _ _ _ | exact kh_2 _ _ _ _) (by first | omega | (dsimp only; omega)) rfl ?_
  refine Ex_iconst dX3_init_42 rfl ?_
  refine Ex_idiv dX3_init_43 rfl (by first | omega | (dsimp only; omega)) (by first | omega | (dsimp only; omega)) ?_
  refine Ex_iast (fs2 := [_, _, _, _, _, _, _, _]) dX3_init_44 rfl (by first | exact kh_1 _ _ _ _ | exact kh_2 _ _ _ _) (by first | omega | (dsimp only; omega)) (Nat.le_of_ble_eq_true rfl) (by omega) rfl ?_
  first | rw [kh_p1] | rw [kh_p2] | skip
  refine Ex_iinc (L2 := [_, _, _]) dX3_init_45 rfl rfl rfl ?_
  refine Ex_goto (t := 29) dX3_init_48 rfl ?_
  refine Ex_iload_n dX3_init_29 rfl rfl ?_
  refine Ex_bipush dX3_init_30 rfl (by decide) ?_
  refine Ex_icmp_ge (t := 51) dX3_init_32 rfl rfl (by first | omega | (dsimp only; omega)) (fun c32 => ?_) (fun c32 => absurd c32 (by first | omega | (dsimp only; omega)))
  refine Ex_vret dX3_init_51 rfl ?_
  exact ⟨rfl, rfl⟩
