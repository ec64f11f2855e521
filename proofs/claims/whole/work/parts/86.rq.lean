/-! the reference: layFewest (by program: wip/whole/spec_rq.py) -/
theorem x12_layF_0 {E : am_E} {d : Nat} {m : Nat} {g K F T S C : Nat → Int} {kp : Value} {fc ff : Int} {Q : Option Value → Hp → Prop} (hB : E.2 ≤ m) {v4 v5 v6 : Value} : ∀ (k i : Nat) (ρ : Nat → Nat → Int) (h : Hp), i + k = 168 → MAt h m g K F T S C ρ kp → (∀ (h2 : Hp) (d2 : Nat → Int), MAt h2 m g K F T S C (fuR ρ 17 d2) kp → (∀ q, i ≤ q → q < 168 → d2 q = if q < 147 then 99 else 0) → (∀ q, q < i → d2 q = ρ 17 q) → Fr h h2 m (m + 23) → Ex E (d + 3) mX12_layFewest 34 [.ref m, .int (i32 fc), .int (i32 ff), .int (i32 168), v4, v5, v6] [] h2 Q) → Ex E (d + 3) mX12_layFewest 2 [.ref m, .int (i32 fc), .int (i32 ff), .int (i32 (i : Int)), v4, v5, v6] [] h Q := by
  intro k
  induction k with
  | zero =>
    intro i ρ h hk M kont
    obtain rfl : i = 168 := by omega
    refine Ex_iload_n dX12_layFewest_2 rfl rfl ?_
    refine Ex_sipush dX12_layFewest_3 rfl (by decide) ?_
    refine Ex_icmp_ge (t := 34) dX12_layFewest_6 rfl rfl (by omega) (fun c6 => ?_) (fun c6 => absurd c6 (by omega))
    exact kont h (ρ 17) (by rw [fuR_same]; exact M) (fun q h1 h2 => by omega) (fun q _ => rfl) (Fr.rf _ _ _)
  | succ k ih =>
    intro i ρ h hk M kont
    by_cases q9 : i < 147
    · refine Ex_iload_n dX12_layFewest_2 rfl rfl ?_
      refine Ex_sipush dX12_layFewest_3 rfl (by decide) ?_
      refine Ex_icmp_ge (t := 34) dX12_layFewest_6 rfl rfl (by omega) (fun c6 => absurd c6 (by omega)) (fun c6 => ?_)
      refine Ex_aload_n dX12_layFewest_9 rfl rfl ?_
      refine Ex_getf dX12_layFewest_10 rfl (ma0 M) rfl rfl rfl ?_
      refine Ex_iload_n dX12_layFewest_13 rfl rfl ?_
      refine Ex_iload_n dX12_layFewest_14 rfl rfl ?_
      refine Ex_sipush dX12_layFewest_15 rfl (by decide) ?_
      refine Ex_icmp_lt (t := 25) dX12_layFewest_18 rfl rfl (by omega) (fun c18 => ?_) (fun c18 => absurd c18 (by omega))
      refine Ex_bipush dX12_layFewest_25 rfl (by decide) ?_
      refine Ex_iast12 (c := i) dX12_layFewest_27 rfl (ma17 M) (by omega) (by omega) (by omega) ?_
      refine mg17 M ?_
      intro h1_ M1_ f1_
      refine Ex_iinc (L2 := [_, _, _, _, _, _, _]) dX12_layFewest_28 rfl rfl rfl ?_
      refine Ex_goto (t := 2) dX12_layFewest_31 rfl ?_
      refine ih (i + 1) _ _ (by omega) M1_ (fun h2 d2 y1 y2 y3 y4 => ?_)
      rw [fuR_fuR] at y1
      refine kont h2 d2 y1 (fun q h1 h2 => ?_) (fun q h1 => ?_) (f1_.trans y4)
      · by_cases e : q = i
        · rw [e, y3 i (by omega), fuR_at, fu_at, if_pos q9]
        · exact y2 q (by omega) h2
      · rw [y3 q (by omega), fuR_at, fu_ne (by omega)]
    · refine Ex_iload_n dX12_layFewest_2 rfl rfl ?_
      refine Ex_sipush dX12_layFewest_3 rfl (by decide) ?_
      refine Ex_icmp_ge (t := 34) dX12_layFewest_6 rfl rfl (by omega) (fun c6 => absurd c6 (by omega)) (fun c6 => ?_)
      refine Ex_aload_n dX12_layFewest_9 rfl rfl ?_
      refine Ex_getf dX12_layFewest_10 rfl (ma0 M) rfl rfl rfl ?_
      refine Ex_iload_n dX12_layFewest_13 rfl rfl ?_
      refine Ex_iload_n dX12_layFewest_14 rfl rfl ?_
      refine Ex_sipush dX12_layFewest_15 rfl (by decide) ?_
      refine Ex_icmp_lt (t := 25) dX12_layFewest_18 rfl rfl (by omega) (fun c18 => absurd c18 (by omega)) (fun c18 => ?_)
      refine Ex_iconst dX12_layFewest_21 rfl ?_
      refine Ex_goto (t := 27) dX12_layFewest_22 rfl ?_
      refine Ex_iast12 (c := i) dX12_layFewest_27 rfl (ma17 M) (by omega) (by omega) (by omega) ?_
      refine mg17 M ?_
      intro h1_ M1_ f1_
      refine Ex_iinc (L2 := [_, _, _, _, _, _, _]) dX12_layFewest_28 rfl rfl rfl ?_
      refine Ex_goto (t := 2) dX12_layFewest_31 rfl ?_
      refine ih (i + 1) _ _ (by omega) M1_ (fun h2 d2 y1 y2 y3 y4 => ?_)
      rw [fuR_fuR] at y1
      refine kont h2 d2 y1 (fun q h1 h2 => ?_) (fun q h1 => ?_) (f1_.trans y4)
      · by_cases e : q = i
        · rw [e, y3 i (by omega), fuR_at, fu_at, if_neg q9]
        · exact y2 q (by omega) h2
      · rw [y3 q (by omega), fuR_at, fu_ne (by omega)]
theorem x12_layF_w {E : am_E} {d q : Nat} {d0 : Nat → Int} {m n c fw : Nat} {g K F T S C : Nat → Int} {ρ : Nat → Nat → Int} {kp : Value} {Q : Option Value → Hp → Prop} (hn6 : n ≤ 6) (hK : ∀ i, i < n → (0 ≤ K i ∧ K i ≤ 7) ∧ (0 ≤ F i ∧ F i ≤ 9)) (hB : E.2 ≤ m) (hc : c < n) (hfw : fw ≤ 1) (hq : q < 147) : ∀ (j w : Nat) (ch : Bool) (dd : Nat → Int) (v6 : Value) (h : Hp), w + j = 3 → fw ≤ w → SW (K c) (F c) fw d0 dd ch q w → MAt h m g K F T S C (fuR ρ 17 dd) kp → (∀ (ch2 : Bool) (d2 : Nat → Int) (v6 : Value) (h2 : Hp), SW (K c) (F c) fw d0 d2 ch2 q 3 → MAt h2 m g K F T S C (fuR ρ 17 d2) kp → Fr h h2 m (m + 23) → Ex E (d + 3) mX12_layFewest 138 [.ref m, .int (i32 (c : Int)), .int (i32 (fw : Int)), .int (i32 (if ch2 = true then 1 else 0)), .int (i32 (q : Int)), .int (i32 (3 : Int)), v6] [] h2 Q) → Ex E (d + 3) mX12_layFewest 55 [.ref m, .int (i32 (c : Int)), .int (i32 (fw : Int)), .int (i32 (if ch = true then 1 else 0)), .int (i32 (q : Int)), .int (i32 (w : Int)), v6] [] h Q := by
  intro j
  induction j with
  | zero =>
    intro w ch dd v6 h hk hfw2 Z M kont
    obtain rfl : w = 3 := by omega
    refine Ex_iload dX12_layFewest_55 rfl rfl ?_
    refine Ex_iconst dX12_layFewest_57 rfl ?_
    refine Ex_icmp_ge (t := 138) dX12_layFewest_58 rfl rfl (by omega) (fun c58 => ?_) (fun c58 => absurd c58 (by omega))
    exact kont ch dd v6 h Z M (Fr.rf _ _ _)
  | succ j ih =>
    intro w ch dd v6 h hk hfw2 Z M kont
    have hKc := hK c hc
    obtain ⟨n1, n2⟩ := nxs_v (k := K c) hKc.2 (w := w) hq
    have b1 := Z.1.1 _ n2
    have b2 := Z.1.1 q (by omega)
    obtain ⟨x, hx⟩ : ∃ x, x = nxs (K c) (F c) w q := ⟨_, rfl⟩
    rw [← hx] at n2 b1
    clear n1
    cases ch
    all_goals by_cases q9 : dd x + 1 < dd q
    · rw [if_neg (show ¬ (false = true) by decide)]
      refine Ex_iload dX12_layFewest_55 rfl rfl ?_
      refine Ex_iconst dX12_layFewest_57 rfl ?_
      refine Ex_icmp_ge (t := 138) dX12_layFewest_58 rfl rfl (by omega) (fun c58 => absurd c58 (by omega)) (fun c58 => ?_)
      refine Ex_aload_n dX12_layFewest_61 rfl rfl ?_
      refine Ex_getf dX12_layFewest_62 rfl (ma0 M) rfl rfl rfl ?_
      refine Ex_aload_n dX12_layFewest_65 rfl rfl ?_
      refine Ex_iload_n dX12_layFewest_66 rfl rfl ?_
      refine Ex_iload dX12_layFewest_67 rfl rfl ?_
      refine Ex_iload dX12_layFewest_69 rfl rfl ?_
      refine Ex_inv 2 dX12_layFewest_71 rfl rfl (Or.inl rfl) rfl rfl rfl rfl (ma0 M) rfl rfl rfl (Ex_post (x12_behindWay M hn6 hK hc hq (by omega)) ?_)
      rintro _ _ ⟨rfl, e0⟩
      obtain rfl := Eq.symm e0
      rw [← hx]
      refine Ex_iald12 (c := x) dX12_layFewest_74 rfl (ma17 M) rfl (by omega) ?_
      rw [fuR_at]
      refine Ex_iconst dX12_layFewest_75 rfl ?_
      refine Ex_iadd dX12_layFewest_76 rfl ?_
      refine Ex_istore (L2 := [_, _, _, _, _, _, _]) dX12_layFewest_77 rfl rfl rfl ?_
      refine Ex_iload_n dX12_layFewest_79 rfl rfl ?_
      refine Ex_if_ne (t := 95) dX12_layFewest_80 rfl rfl (by omega) (fun c80 => absurd c80 (by omega)) (fun c80 => ?_)
      refine Ex_iload dX12_layFewest_83 rfl rfl ?_
      refine Ex_aload_n dX12_layFewest_85 rfl rfl ?_
      refine Ex_getf dX12_layFewest_86 rfl (ma0 M) rfl rfl rfl ?_
      refine Ex_iload dX12_layFewest_89 rfl rfl ?_
      refine Ex_iald12 (c := q) dX12_layFewest_91 rfl (ma17 M) rfl (by omega) ?_
      rw [fuR_at]
      refine Ex_icmp_ge (t := 99) dX12_layFewest_92 rfl rfl (by omega) (fun c92 => absurd c92 (by omega)) (fun c92 => ?_)
      refine Ex_iconst dX12_layFewest_95 rfl ?_
      refine Ex_goto (t := 100) dX12_layFewest_96 rfl ?_
      refine Ex_istore_n (L2 := [_, _, _, _, _, _, _]) dX12_layFewest_100 rfl rfl rfl ?_
      refine Ex_aload_n dX12_layFewest_101 rfl rfl ?_
      refine Ex_getf dX12_layFewest_102 rfl (ma0 M) rfl rfl rfl ?_
      refine Ex_iload dX12_layFewest_105 rfl rfl ?_
      refine Ex_iload dX12_layFewest_107 rfl rfl ?_
      refine Ex_aload_n dX12_layFewest_109 rfl rfl ?_
      refine Ex_getf dX12_layFewest_110 rfl (ma0 M) rfl rfl rfl ?_
      refine Ex_iload dX12_layFewest_113 rfl rfl ?_
      refine Ex_iald12 (c := q) dX12_layFewest_115 rfl (ma17 M) rfl (by omega) ?_
      rw [fuR_at]
      refine Ex_icmp_ge (t := 124) dX12_layFewest_116 rfl rfl (by omega) (fun c116 => absurd c116 (by omega)) (fun c116 => ?_)
      refine Ex_iload dX12_layFewest_119 rfl rfl ?_
      refine Ex_goto (t := 131) dX12_layFewest_121 rfl ?_
      try rw [fuR_at]
      refine Ex_iast12 (c := q) dX12_layFewest_131 rfl (ma17 M) rfl (by omega) (by omega) ?_
      refine mg17 M ?_
      intro h1_ M1_ f1_
      refine Ex_iinc (L2 := [_, _, _, _, _, _, _]) dX12_layFewest_132 rfl rfl rfl ?_
      refine Ex_goto (t := 55) dX12_layFewest_135 rfl ?_
      rw [fuR_fuR, fuR_at] at M1_
      refine ih (w + 1) true _ _ h1_ (by omega) (by omega) (by rw [hx]; exact Z.low hKc.2 hq ⟨hfw2, by omega⟩ (by rw [← hx]; exact q9)) M1_ (fun ch2 d2 v6 h2 y1 y2 y3 => kont ch2 d2 v6 h2 y1 y2 (f1_.trans y3))
    · rw [if_neg (show ¬ (false = true) by decide)]
      refine Ex_iload dX12_layFewest_55 rfl rfl ?_
      refine Ex_iconst dX12_layFewest_57 rfl ?_
      refine Ex_icmp_ge (t := 138) dX12_layFewest_58 rfl rfl (by omega) (fun c58 => absurd c58 (by omega)) (fun c58 => ?_)
      refine Ex_aload_n dX12_layFewest_61 rfl rfl ?_
      refine Ex_getf dX12_layFewest_62 rfl (ma0 M) rfl rfl rfl ?_
      refine Ex_aload_n dX12_layFewest_65 rfl rfl ?_
      refine Ex_iload_n dX12_layFewest_66 rfl rfl ?_
      refine Ex_iload dX12_layFewest_67 rfl rfl ?_
      refine Ex_iload dX12_layFewest_69 rfl rfl ?_
      refine Ex_inv 2 dX12_layFewest_71 rfl rfl (Or.inl rfl) rfl rfl rfl rfl (ma0 M) rfl rfl rfl (Ex_post (x12_behindWay M hn6 hK hc hq (by omega)) ?_)
      rintro _ _ ⟨rfl, e0⟩
      obtain rfl := Eq.symm e0
      rw [← hx]
      refine Ex_iald12 (c := x) dX12_layFewest_74 rfl (ma17 M) rfl (by omega) ?_
      rw [fuR_at]
      refine Ex_iconst dX12_layFewest_75 rfl ?_
      refine Ex_iadd dX12_layFewest_76 rfl ?_
      refine Ex_istore (L2 := [_, _, _, _, _, _, _]) dX12_layFewest_77 rfl rfl rfl ?_
      refine Ex_iload_n dX12_layFewest_79 rfl rfl ?_
      refine Ex_if_ne (t := 95) dX12_layFewest_80 rfl rfl (by omega) (fun c80 => absurd c80 (by omega)) (fun c80 => ?_)
      refine Ex_iload dX12_layFewest_83 rfl rfl ?_
      refine Ex_aload_n dX12_layFewest_85 rfl rfl ?_
      refine Ex_getf dX12_layFewest_86 rfl (ma0 M) rfl rfl rfl ?_
      refine Ex_iload dX12_layFewest_89 rfl rfl ?_
      refine Ex_iald12 (c := q) dX12_layFewest_91 rfl (ma17 M) rfl (by omega) ?_
      rw [fuR_at]
      refine Ex_icmp_ge (t := 99) dX12_layFewest_92 rfl rfl (by omega) (fun c92 => ?_) (fun c92 => absurd c92 (by omega))
      refine Ex_iconst dX12_layFewest_99 rfl ?_
      refine Ex_istore_n (L2 := [_, _, _, _, _, _, _]) dX12_layFewest_100 rfl rfl rfl ?_
      refine Ex_aload_n dX12_layFewest_101 rfl rfl ?_
      refine Ex_getf dX12_layFewest_102 rfl (ma0 M) rfl rfl rfl ?_
      refine Ex_iload dX12_layFewest_105 rfl rfl ?_
      refine Ex_iload dX12_layFewest_107 rfl rfl ?_
      refine Ex_aload_n dX12_layFewest_109 rfl rfl ?_
      refine Ex_getf dX12_layFewest_110 rfl (ma0 M) rfl rfl rfl ?_
      refine Ex_iload dX12_layFewest_113 rfl rfl ?_
      refine Ex_iald12 (c := q) dX12_layFewest_115 rfl (ma17 M) rfl (by omega) ?_
      rw [fuR_at]
      refine Ex_icmp_ge (t := 124) dX12_layFewest_116 rfl rfl (by omega) (fun c116 => ?_) (fun c116 => absurd c116 (by omega))
      refine Ex_aload_n dX12_layFewest_124 rfl rfl ?_
      refine Ex_getf dX12_layFewest_125 rfl (ma0 M) rfl rfl rfl ?_
      refine Ex_iload dX12_layFewest_128 rfl rfl ?_
      refine Ex_iald12 (c := q) dX12_layFewest_130 rfl (ma17 M) rfl (by omega) ?_
      try rw [fuR_at]
      refine Ex_iast12 (c := q) dX12_layFewest_131 rfl (ma17 M) rfl (by omega) (by omega) ?_
      refine mg17 M ?_
      intro h1_ M1_ f1_
      refine Ex_iinc (L2 := [_, _, _, _, _, _, _]) dX12_layFewest_132 rfl rfl rfl ?_
      refine Ex_goto (t := 55) dX12_layFewest_135 rfl ?_
      rw [fuR_fuR, fuR_at, fu_same] at M1_
      refine ih (w + 1) false _ _ h1_ (by omega) (by omega) (Z.keep (by rw [← hx]; exact q9)) M1_ (fun ch2 d2 v6 h2 y1 y2 y3 => kont ch2 d2 v6 h2 y1 y2 (f1_.trans y3))
    · rw [if_pos (show true = true from rfl)]
      refine Ex_iload dX12_layFewest_55 rfl rfl ?_
      refine Ex_iconst dX12_layFewest_57 rfl ?_
      refine Ex_icmp_ge (t := 138) dX12_layFewest_58 rfl rfl (by omega) (fun c58 => absurd c58 (by omega)) (fun c58 => ?_)
      refine Ex_aload_n dX12_layFewest_61 rfl rfl ?_
      refine Ex_getf dX12_layFewest_62 rfl (ma0 M) rfl rfl rfl ?_
      refine Ex_aload_n dX12_layFewest_65 rfl rfl ?_
      refine Ex_iload_n dX12_layFewest_66 rfl rfl ?_
      refine Ex_iload dX12_layFewest_67 rfl rfl ?_
      refine Ex_iload dX12_layFewest_69 rfl rfl ?_
      refine Ex_inv 2 dX12_layFewest_71 rfl rfl (Or.inl rfl) rfl rfl rfl rfl (ma0 M) rfl rfl rfl (Ex_post (x12_behindWay M hn6 hK hc hq (by omega)) ?_)
      rintro _ _ ⟨rfl, e0⟩
      obtain rfl := Eq.symm e0
      rw [← hx]
      refine Ex_iald12 (c := x) dX12_layFewest_74 rfl (ma17 M) rfl (by omega) ?_
      rw [fuR_at]
      refine Ex_iconst dX12_layFewest_75 rfl ?_
      refine Ex_iadd dX12_layFewest_76 rfl ?_
      refine Ex_istore (L2 := [_, _, _, _, _, _, _]) dX12_layFewest_77 rfl rfl rfl ?_
      refine Ex_iload_n dX12_layFewest_79 rfl rfl ?_
      refine Ex_if_ne (t := 95) dX12_layFewest_80 rfl rfl (by omega) (fun c80 => ?_) (fun c80 => absurd c80 (by omega))
      refine Ex_iconst dX12_layFewest_95 rfl ?_
      refine Ex_goto (t := 100) dX12_layFewest_96 rfl ?_
      refine Ex_istore_n (L2 := [_, _, _, _, _, _, _]) dX12_layFewest_100 rfl rfl rfl ?_
      refine Ex_aload_n dX12_layFewest_101 rfl rfl ?_
      refine Ex_getf dX12_layFewest_102 rfl (ma0 M) rfl rfl rfl ?_
      refine Ex_iload dX12_layFewest_105 rfl rfl ?_
      refine Ex_iload dX12_layFewest_107 rfl rfl ?_
      refine Ex_aload_n dX12_layFewest_109 rfl rfl ?_
      refine Ex_getf dX12_layFewest_110 rfl (ma0 M) rfl rfl rfl ?_
      refine Ex_iload dX12_layFewest_113 rfl rfl ?_
      refine Ex_iald12 (c := q) dX12_layFewest_115 rfl (ma17 M) rfl (by omega) ?_
      rw [fuR_at]
      refine Ex_icmp_ge (t := 124) dX12_layFewest_116 rfl rfl (by omega) (fun c116 => absurd c116 (by omega)) (fun c116 => ?_)
      refine Ex_iload dX12_layFewest_119 rfl rfl ?_
      refine Ex_goto (t := 131) dX12_layFewest_121 rfl ?_
      try rw [fuR_at]
      refine Ex_iast12 (c := q) dX12_layFewest_131 rfl (ma17 M) rfl (by omega) (by omega) ?_
      refine mg17 M ?_
      intro h1_ M1_ f1_
      refine Ex_iinc (L2 := [_, _, _, _, _, _, _]) dX12_layFewest_132 rfl rfl rfl ?_
      refine Ex_goto (t := 55) dX12_layFewest_135 rfl ?_
      rw [fuR_fuR, fuR_at] at M1_
      refine ih (w + 1) true _ _ h1_ (by omega) (by omega) (by rw [hx]; exact Z.low hKc.2 hq ⟨hfw2, by omega⟩ (by rw [← hx]; exact q9)) M1_ (fun ch2 d2 v6 h2 y1 y2 y3 => kont ch2 d2 v6 h2 y1 y2 (f1_.trans y3))
    · rw [if_pos (show true = true from rfl)]
      refine Ex_iload dX12_layFewest_55 rfl rfl ?_
      refine Ex_iconst dX12_layFewest_57 rfl ?_
      refine Ex_icmp_ge (t := 138) dX12_layFewest_58 rfl rfl (by omega) (fun c58 => absurd c58 (by omega)) (fun c58 => ?_)
      refine Ex_aload_n dX12_layFewest_61 rfl rfl ?_
      refine Ex_getf dX12_layFewest_62 rfl (ma0 M) rfl rfl rfl ?_
      refine Ex_aload_n dX12_layFewest_65 rfl rfl ?_
      refine Ex_iload_n dX12_layFewest_66 rfl rfl ?_
      refine Ex_iload dX12_layFewest_67 rfl rfl ?_
      refine Ex_iload dX12_layFewest_69 rfl rfl ?_
      refine Ex_inv 2 dX12_layFewest_71 rfl rfl (Or.inl rfl) rfl rfl rfl rfl (ma0 M) rfl rfl rfl (Ex_post (x12_behindWay M hn6 hK hc hq (by omega)) ?_)
      rintro _ _ ⟨rfl, e0⟩
      obtain rfl := Eq.symm e0
      rw [← hx]
      refine Ex_iald12 (c := x) dX12_layFewest_74 rfl (ma17 M) rfl (by omega) ?_
      rw [fuR_at]
      refine Ex_iconst dX12_layFewest_75 rfl ?_
      refine Ex_iadd dX12_layFewest_76 rfl ?_
      refine Ex_istore (L2 := [_, _, _, _, _, _, _]) dX12_layFewest_77 rfl rfl rfl ?_
      refine Ex_iload_n dX12_layFewest_79 rfl rfl ?_
      refine Ex_if_ne (t := 95) dX12_layFewest_80 rfl rfl (by omega) (fun c80 => ?_) (fun c80 => absurd c80 (by omega))
      refine Ex_iconst dX12_layFewest_95 rfl ?_
      refine Ex_goto (t := 100) dX12_layFewest_96 rfl ?_
      refine Ex_istore_n (L2 := [_, _, _, _, _, _, _]) dX12_layFewest_100 rfl rfl rfl ?_
      refine Ex_aload_n dX12_layFewest_101 rfl rfl ?_
      refine Ex_getf dX12_layFewest_102 rfl (ma0 M) rfl rfl rfl ?_
      refine Ex_iload dX12_layFewest_105 rfl rfl ?_
      refine Ex_iload dX12_layFewest_107 rfl rfl ?_
      refine Ex_aload_n dX12_layFewest_109 rfl rfl ?_
      refine Ex_getf dX12_layFewest_110 rfl (ma0 M) rfl rfl rfl ?_
      refine Ex_iload dX12_layFewest_113 rfl rfl ?_
      refine Ex_iald12 (c := q) dX12_layFewest_115 rfl (ma17 M) rfl (by omega) ?_
      rw [fuR_at]
      refine Ex_icmp_ge (t := 124) dX12_layFewest_116 rfl rfl (by omega) (fun c116 => ?_) (fun c116 => absurd c116 (by omega))
      refine Ex_aload_n dX12_layFewest_124 rfl rfl ?_
      refine Ex_getf dX12_layFewest_125 rfl (ma0 M) rfl rfl rfl ?_
      refine Ex_iload dX12_layFewest_128 rfl rfl ?_
      refine Ex_iald12 (c := q) dX12_layFewest_130 rfl (ma17 M) rfl (by omega) ?_
      try rw [fuR_at]
      refine Ex_iast12 (c := q) dX12_layFewest_131 rfl (ma17 M) rfl (by omega) (by omega) ?_
      refine mg17 M ?_
      intro h1_ M1_ f1_
      refine Ex_iinc (L2 := [_, _, _, _, _, _, _]) dX12_layFewest_132 rfl rfl rfl ?_
      refine Ex_goto (t := 55) dX12_layFewest_135 rfl ?_
      rw [fuR_fuR, fuR_at, fu_same] at M1_
      refine ih (w + 1) true _ _ h1_ (by omega) (by omega) (Z.keep (by rw [← hx]; exact q9)) M1_ (fun ch2 d2 v6 h2 y1 y2 y3 => kont ch2 d2 v6 h2 y1 y2 (f1_.trans y3))
theorem x12_layF_q {E : am_E} {d : Nat} {d0 : Nat → Int} {m n c fw : Nat} {g K F T S C : Nat → Int} {ρ : Nat → Nat → Int} {kp : Value} {Q : Option Value → Hp → Prop} (hn6 : n ≤ 6) (hK : ∀ i, i < n → (0 ≤ K i ∧ K i ≤ 7) ∧ (0 ≤ F i ∧ F i ≤ 9)) (hB : E.2 ≤ m) (hc : c < n) (hfw : fw ≤ 1) : ∀ (k : Nat) (ch : Bool) (dd : Nat → Int) (v5 v6 : Value) (h : Hp), k ≤ 147 → SW (K c) (F c) fw d0 dd ch k 3 → MAt h m g K F T S C (fuR ρ 17 dd) kp → (∀ (ch2 : Bool) (d2 : Nat → Int) (v5 v6 : Value) (h2 : Hp), SW (K c) (F c) fw d0 d2 ch2 0 3 → MAt h2 m g K F T S C (fuR ρ 17 d2) kp → Fr h h2 m (m + 23) → Ex E (d + 3) mX12_layFewest 36 [.ref m, .int (i32 (c : Int)), .int (i32 (fw : Int)), .int (i32 (if ch2 = true then 1 else 0)), .int (i32 (-1)), v5, v6] [] h2 Q) → Ex E (d + 3) mX12_layFewest 47 [.ref m, .int (i32 (c : Int)), .int (i32 (fw : Int)), .int (i32 (if ch = true then 1 else 0)), .int (i32 ((k : Int) - 1)), v5, v6] [] h Q := by
  intro k
  induction k with
  | zero =>
    intro ch dd v5 v6 h hk Z M kont
    refine Ex_iload dX12_layFewest_47 rfl rfl ?_
    refine Ex_if_lt (t := 144) dX12_layFewest_49 rfl rfl (by omega) (fun c49 => ?_) (fun c49 => absurd c49 (by omega))
    refine Ex_goto (t := 36) dX12_layFewest_144 rfl ?_
    exact kont ch dd v5 v6 h Z M (Fr.rf _ _ _)
  | succ k ih =>
    intro ch dd v5 v6 h hk Z M kont
    rw [show (((k + 1 : Nat) : Int) - 1) = (k : Int) by omega]
    have Z1 : SW (K c) (F c) fw d0 dd ch k fw := ⟨Z.1, Z.2.1, Z.2.2.1, fun z => ⟨(Z.2.2.2 z).1, fun p v h1 h2 h3 h4 => (Z.2.2.2 z).2 p v h1 h2 h3 (by omega)⟩⟩
    refine Ex_iload dX12_layFewest_47 rfl rfl ?_
    refine Ex_if_lt (t := 144) dX12_layFewest_49 rfl rfl (by omega) (fun c49 => absurd c49 (by omega)) (fun c49 => ?_)
    refine Ex_iload_n dX12_layFewest_52 rfl rfl ?_
    refine Ex_istore (L2 := [_, _, _, _, _, _, _]) dX12_layFewest_53 rfl rfl rfl ?_
    refine x12_layF_w hn6 hK hB hc hfw (q := k) (by omega) (3 - fw) fw ch dd _ h (by omega) (Nat.le_refl _) Z1 M (fun ch2 d2 v6 h2 y1 y2 y3 => ?_)
    refine Ex_iinc (L2 := [_, _, _, _, _, _, _]) dX12_layFewest_138 rfl rfl rfl ?_
    refine Ex_goto (t := 47) dX12_layFewest_141 rfl ?_
    exact ih ch2 d2 _ _ h2 (by omega) y1 y2 (fun ch3 d3 v5 v6 h3 z1 z2 z3 => kont ch3 d3 v5 v6 h3 z1 z2 (y3.trans z3))
theorem x12_layF_l {E : am_E} {d : Nat} {m n c fw : Nat} {g K F T S C : Nat → Int} {ρ : Nat → Nat → Int} {kp : Value} (hn6 : n ≤ 6) (hK : ∀ i, i < n → (0 ≤ K i ∧ K i ≤ 7) ∧ (0 ≤ F i ∧ F i ≤ 9)) (hB : E.2 ≤ m) (hc : c < n) (hfw : fw ≤ 1) : ∀ (N : Nat) (dd : Nat → Int) (v4 v5 v6 : Value) (h : Hp), TJ (K c) (F c) fw dd → sm dd 0 168 < (N : Int) → MAt h m g K F T S C (fuR ρ 17 dd) kp → Ex E (d + 3) mX12_layFewest 36 [.ref m, .int (i32 (c : Int)), .int (i32 (fw : Int)), .int (i32 1), v4, v5, v6] [] h (fun r1 h1 => r1 = none ∧ (∃ d2, TX (K c) (F c) fw d2 ∧ MAt h1 m g K F T S C (fuR ρ 17 d2) kp) ∧ Fr h h1 m (m + 23)) := by
  intro N
  induction N with
  | zero =>
    intro dd v4 v5 v6 h J hs M
    have := (sm_r (f := dd) (b := 99) (n := 168) (by omega) J.1 168 0 (by omega)).1
    omega
  | succ N ih =>
    intro dd v4 v5 v6 h J hs M
    refine Ex_iload_n dX12_layFewest_36 rfl rfl ?_
    refine Ex_if_eq (t := 147) dX12_layFewest_37 rfl rfl (by omega) (fun c37 => absurd c37 (by omega)) (fun c37 => ?_)
    refine Ex_iconst dX12_layFewest_40 rfl ?_
    refine Ex_istore_n (L2 := [_, _, _, _, _, _, _]) dX12_layFewest_41 rfl rfl rfl ?_
    refine Ex_sipush dX12_layFewest_42 rfl (by decide) ?_
    refine Ex_istore (L2 := [_, _, _, _, _, _, _]) dX12_layFewest_45 rfl rfl rfl ?_
    refine x12_layF_q hn6 hK hB hc hfw (d0 := dd) 147 false dd v5 v6 h (Nat.le_refl _) ⟨J, Int.le_refl _, fun z => (by cases z), fun _ => ⟨rfl, fun p v h1 h2 h3 h4 => by omega⟩⟩ M (fun ch2 d2 v5 v6 h2 y1 y2 y3 => ?_)
    cases ch2 with
    | true =>
      refine Ex_post (ih d2 _ v5 v6 h2 y1.1 (by have := y1.2.2.1 rfl; omega) y2) ?_
      rintro r1 h1 ⟨rfl, z1, z2⟩
      exact ⟨rfl, z1, y3.trans z2⟩
    | false =>
      have e9 := (y1.2.2.2 rfl)
      rw [if_neg (show ¬ (false = true) by decide)]
      refine Ex_iload_n dX12_layFewest_36 rfl rfl ?_
      refine Ex_if_eq (t := 147) dX12_layFewest_37 rfl rfl (by omega) (fun c37 => ?_) (fun c37 => absurd c37 (by omega))
      refine Ex_vret dX12_layFewest_147 rfl ?_
      exact ⟨rfl, ⟨d2, ⟨y1.1, fun p h1 v h2 h3 => by have := e9.2 p v h1 h2 h3 (by omega); rw [e9.1]; exact this⟩, y2⟩, y3⟩
theorem x12_layFewest {E : am_E} {d : Nat} {h : Hp} {m n c fw : Nat} {g K F T S C : Nat → Int} {ρ : Nat → Nat → Int} {kp : Value}  (M : MAt h m g K F T S C ρ kp) (hn6 : n ≤ 6) (hK : ∀ i, i < n → (0 ≤ K i ∧ K i ≤ 7) ∧ (0 ≤ F i ∧ F i ≤ 9)) (hB : E.2 ≤ m) (hc : c < n) (hfw : fw ≤ 1)  : Ex E (d + 3) mX12_layFewest 0 [.ref m, .int (i32 (c : Int)), .int (i32 (fw : Int)), .retAddr 0, .retAddr 0, .retAddr 0, .retAddr 0] [] h (fun r1 h1 => r1 = none ∧ (∃ d2, TX (K c) (F c) fw d2 ∧ MAt h1 m g K F T S C (fuR ρ 17 d2) kp) ∧ Fr h h1 m (m + 23)) := by
  refine Ex_iconst dX12_layFewest_0 rfl ?_
  refine Ex_istore_n (L2 := [_, _, _, _, _, _, _]) dX12_layFewest_1 rfl rfl rfl ?_
  refine x12_layF_0 hB 168 0 ρ h (by omega) M (fun h2 d2 y1 y2 y3 y4 => ?_)
  have J : TJ (K c) (F c) fw d2 := by
    refine ⟨fun q hq => ?_, fun q h1 h2 => ?_, fun q h1 h2 => ?_⟩
    · rw [y2 q (by omega) hq]; split <;> omega
    · rw [y2 q (by omega) h2, if_neg (by omega)]
    · rw [y2 q (by omega) (by omega), if_pos h1] at h2; omega
  refine Ex_iconst dX12_layFewest_34 rfl ?_
  refine Ex_istore_n (L2 := [_, _, _, _, _, _, _]) dX12_layFewest_35 rfl rfl rfl ?_
  refine Ex_post (x12_layF_l hn6 hK hB hc hfw 16633 d2 _ _ _ h2 J ?_ y1) ?_
  · have := (sm_r (f := d2) (b := 99) (n := 168) (by omega) J.1 168 0 (by omega)).2
    omega
  · rintro r1 h1 ⟨rfl, z1, z2⟩
    exact ⟨rfl, z1, y4.trans z2⟩
