/-! the reference: ALONE by a table (by program: wip/whole/spec_rp.py) -/
theorem sm_fu {d : Nat → Int} {q : Nat} {v : Int} : ∀ (k c : Nat), sm (fu d q v) c k = sm d c k + (if c ≤ q ∧ q < c + k then v - d q else 0)
  | 0, c => by rw [if_neg (by omega)]; rfl
  | k + 1, c => by
    have ih := sm_fu (d := d) (q := q) (v := v) k (c + 1)
    show fu d q v c + sm (fu d q v) (c + 1) k = d c + sm d (c + 1) k + _
    rw [ih]
    by_cases e : c = q
    · subst e
      rw [fu_at, if_neg (by omega), if_pos (by omega)]
      omega
    · rw [fu_ne e]
      by_cases e2 : c + 1 ≤ q ∧ q < c + 1 + k
      · rw [if_pos e2, if_pos (by omega)]; omega
      · rw [if_neg e2, if_neg (by omega)]; omega
/-- what the table keeps -/
def TJ (k f : Int) (fw : Nat) (d : Nat → Int) : Prop := (∀ q, q < 168 → 0 ≤ d q ∧ d q ≤ 99) ∧ (∀ q, 147 ≤ q → q < 168 → d q = 0) ∧ (∀ q, q < 147 → d q < 99 → Wb k f fw (d q).toNat q = true)
def TX (k f : Int) (fw : Nat) (d : Nat → Int) : Prop := TJ k f fw d ∧ ∀ q, q < 147 → ∀ w, fw ≤ w → w < 3 → d q ≤ d (nxs k f w q) + 1
theorem TJ.step {k f : Int} {fw q w : Nat} {d : Nat → Int} (J : TJ k f fw d) (hf : 0 ≤ f ∧ f ≤ 9) (hq : q < 147) (hw : fw ≤ w ∧ w < 3) (h : d (nxs k f w q) + 1 < d q) : TJ k f fw (fu d q (d (nxs k f w q) + 1)) := by
  obtain ⟨j1, j2, j3⟩ := J
  obtain ⟨n1, n2⟩ := nxs_v (k := k) hf (w := w) hq
  have h1 := j1 _ n2
  have h2 := j1 q (by omega)
  refine ⟨fun p hp => ?_, fun p hp hp2 => ?_, fun p hp hp2 => ?_⟩
  · by_cases e : p = q
    · subst e; rw [fu_at]; omega
    · rw [fu_ne e]; exact j1 p hp
  · rw [fu_ne (by omega)]; exact j2 p hp hp2
  · by_cases e : p = q
    · subst e
      rw [fu_at] at hp2 ⊢
      rw [show (d (nxs k f w p) + 1).toNat = (d (nxs k f w p)).toNat + 1 by omega, Wb_s]
      refine Or.inr ⟨w, hw.1, hw.2, ?_⟩
      by_cases e2 : nxs k f w p < 147
      · exact j3 _ e2 (by omega)
      · rw [j2 _ (by omega) n2]
        exact decide_eq_true (by omega)
    · rw [fu_ne e] at hp2 ⊢; exact j3 p hp hp2
theorem TX.le {k f : Int} {fw : Nat} {d : Nat → Int} (X : TX k f fw d) (hf : 0 ≤ f ∧ f ≤ 9) : ∀ (n q : Nat), q < 168 → Wb k f fw n q = true → d q ≤ n := by
  obtain ⟨⟨j1, j2, j3⟩, x⟩ := X
  intro n
  induction n with
  | zero =>
    intro q hq h
    have h : 147 ≤ q := of_decide_eq_true h
    rw [j2 q h hq]; omega
  | succ n ih =>
    intro q hq h
    by_cases e : 147 ≤ q
    · rw [j2 q e hq]; omega
    · rcases Wb_s.1 h with h | ⟨w, h1, h2, h3⟩
      · exact absurd h e
      · have := ih _ (nxs_v (k := k) hf (w := w) (by omega)).2 h3
        have := x q (by omega) w h1 h2
        omega
/-- the table's number is the fewest -/
theorem TX.few {k f : Int} {fw q : Nat} {d : Nat → Int} (X : TX k f fw d) (hf : 0 ≤ f ∧ f ≤ 9) (hq : q < 168) : fewA k f fw q = if d q ≤ 60 then d q else -4 := by
  have hle := X.le hf
  obtain ⟨⟨j1, j2, j3⟩, x⟩ := X
  have h1 := j1 q hq
  by_cases h6 : d q ≤ 60
  · rw [if_pos h6]
    have hd : Wb k f fw (d q).toNat q = true := by
      by_cases e : q < 147
      · exact j3 q e (by omega)
      · rw [j2 q (by omega) hq]
        exact decide_eq_true (by omega)
    have := fewA_is (k := k) (f := f) (fw := fw) (q := q) (d := (d q).toNat) (fun n hn => by
      cases hw : Wb k f fw n q with
      | false => rfl
      | true => have := hle n q hq hw; omega) hd
    rw [this, if_pos (by omega)]
    omega
  · rw [if_neg h6]
    exact fl_no (fun n hn => by
      cases hw : Wb k f fw n q with
      | false => rfl
      | true => have := hle n q hq hw; omega) 61 0 (by omega)
theorem x12_behindWay {E : am_E} {d : Nat} {h : Hp} {m n : Nat} {g K F T S C : Nat → Int} {ρ : Nat → Nat → Int} {kp : Value} {c q w : Nat}  (M : MAt h m g K F T S C ρ kp) (hn6 : n ≤ 6) (hK : ∀ i, i < n → (0 ≤ K i ∧ K i ≤ 7) ∧ (0 ≤ F i ∧ F i ≤ 9)) (hc : c < n) (hq : q < 147) (hw : w < 3)  : Ex E (d + 2) mX12_behindWay 0 [.ref m, .int (i32 (c : Int)), .int (i32 (q : Int)), .int (i32 (w : Int)), .retAddr 0, .retAddr 0] [] h (fun r1 h1 => r1 = some (.int (i32 ((nxs (K c) (F c) w q : Nat) : Int))) ∧ h1 = h) := by
  have hKc := hK c hc
  obtain ⟨e1, e2⟩ := nxs_v (k := K c) hKc.2 (w := w) hq
  obtain ⟨t, ht⟩ : ∃ t : Int, t = ((q % 21 : Nat) : Int) := ⟨_, rfl⟩
  obtain ⟨s, hs⟩ : ∃ s : Int, s = ((q / 21 : Nat) : Int) := ⟨_, rfl⟩
  rw [← ht, ← hs] at e1
  have htq : (q : Int) % 21 = t := by omega
  have hsq : (q : Int) / 21 = s := by omega
  have hnr := sp_needs_r (k := K c) (s := s) hKc.2 (by omega)
  have hho := sp_holds_r (k := K c) hKc.2
  have hfr := sp_fright_r (k := K c) hKc.2
  have hc1 := sp_cl_r (t + sp_holds (K c) (F c) / 2 + 1)
  have hc2 := sp_cl_r (t + sp_holds (K c) (F c))
  have hc3 := sp_cl_r (t - sp_fright (K c) (F c))
  rw [e1]
  clear e1 e2
  unfold sp_ms sp_mt
  rcases (show w = 0 ∨ w = 1 ∨ w = 2 by omega) with e | e | e
  · subst e
    refine Ex_iload_n dX12_behindWay_0 rfl rfl ?_
    refine Ex_bipush dX12_behindWay_1 rfl (by decide) ?_
    refine Ex_idiv dX12_behindWay_3 rfl (by omega) (by omega) ?_
    rw [hsq]
    refine Ex_istore (L2 := [_, _, _, _, _, _]) dX12_behindWay_4 rfl rfl rfl ?_
    refine Ex_iload_n dX12_behindWay_6 rfl rfl ?_
    refine Ex_bipush dX12_behindWay_7 rfl (by decide) ?_
    refine Ex_irem dX12_behindWay_9 rfl (by omega) (by omega) ?_
    rw [htq]
    refine Ex_istore (L2 := [_, _, _, _, _, _]) dX12_behindWay_10 rfl rfl rfl ?_
    refine Ex_iload_n dX12_behindWay_12 rfl rfl ?_
    refine Ex_if_ne (t := 34) dX12_behindWay_13 rfl rfl (by omega) (fun c13 => absurd c13 (by omega)) (fun c13 => ?_)
    refine Ex_iload dX12_behindWay_16 rfl rfl ?_
    refine Ex_aload_n dX12_behindWay_18 rfl rfl ?_
    refine Ex_iload_n dX12_behindWay_19 rfl rfl ?_
    refine Ex_inv 2 dX12_behindWay_20 rfl rfl (Or.inl rfl) rfl rfl rfl rfl (ma0 M) rfl rfl rfl (Ex_post (x12_holdsOf M hn6 hK hc) ?_)
    rintro _ _ ⟨rfl, e0⟩
    obtain rfl := Eq.symm e0
    refine Ex_iadd dX12_behindWay_23 rfl ?_
    refine Ex_bipush dX12_behindWay_24 rfl (by decide) ?_
    refine Ex_stat 0 dX12_behindWay_26 rfl rfl (Or.inl rfl) rfl rfl rfl rfl rfl rfl (Ex_post (x12_held (by omega) (by omega)) ?_)
    rintro _ _ ⟨rfl, e0⟩
    obtain rfl := Eq.symm e0
    rw [hl_cl]
    refine Ex_istore (L2 := [_, _, _, _, _, _]) dX12_behindWay_29 rfl rfl rfl ?_
    refine Ex_goto (t := 118) dX12_behindWay_31 rfl ?_
    refine Ex_bipush dX12_behindWay_118 rfl (by decide) ?_
    refine Ex_iload dX12_behindWay_120 rfl rfl ?_
    refine Ex_imul dX12_behindWay_122 rfl ?_
    refine Ex_iload dX12_behindWay_123 rfl rfl ?_
    refine Ex_iadd dX12_behindWay_125 rfl ?_
    refine Ex_iret dX12_behindWay_126 rfl rfl ?_
    refine ⟨ri ?_, rfl⟩
    unfold sp_cl at *
    first | omega | (simp only [if_true, if_false, sp_cl] ; (repeat' split) <;> omega)
  · subst e
    refine Ex_iload_n dX12_behindWay_0 rfl rfl ?_
    refine Ex_bipush dX12_behindWay_1 rfl (by decide) ?_
    refine Ex_idiv dX12_behindWay_3 rfl (by omega) (by omega) ?_
    rw [hsq]
    refine Ex_istore (L2 := [_, _, _, _, _, _]) dX12_behindWay_4 rfl rfl rfl ?_
    refine Ex_iload_n dX12_behindWay_6 rfl rfl ?_
    refine Ex_bipush dX12_behindWay_7 rfl (by decide) ?_
    refine Ex_irem dX12_behindWay_9 rfl (by omega) (by omega) ?_
    rw [htq]
    refine Ex_istore (L2 := [_, _, _, _, _, _]) dX12_behindWay_10 rfl rfl rfl ?_
    refine Ex_iload_n dX12_behindWay_12 rfl rfl ?_
    refine Ex_if_ne (t := 34) dX12_behindWay_13 rfl rfl (by omega) (fun c13 => ?_) (fun c13 => absurd c13 (by omega))
    refine Ex_iload_n dX12_behindWay_34 rfl rfl ?_
    refine Ex_iconst dX12_behindWay_35 rfl ?_
    refine Ex_icmp_ne (t := 85) dX12_behindWay_36 rfl rfl (by omega) (fun c36 => absurd c36 (by omega)) (fun c36 => ?_)
    refine Ex_iload dX12_behindWay_39 rfl rfl ?_
    refine Ex_aload_n dX12_behindWay_41 rfl rfl ?_
    refine Ex_iload_n dX12_behindWay_42 rfl rfl ?_
    refine Ex_inv 2 dX12_behindWay_43 rfl rfl (Or.inl rfl) rfl rfl rfl rfl (ma0 M) rfl rfl rfl (Ex_post (x12_holdsOf M hn6 hK hc) ?_)
    rintro _ _ ⟨rfl, e0⟩
    obtain rfl := Eq.symm e0
    refine Ex_iconst dX12_behindWay_46 rfl ?_
    refine Ex_idiv dX12_behindWay_47 rfl (by omega) (by omega) ?_
    refine Ex_iadd dX12_behindWay_48 rfl ?_
    refine Ex_iconst dX12_behindWay_49 rfl ?_
    refine Ex_iadd dX12_behindWay_50 rfl ?_
    refine Ex_bipush dX12_behindWay_51 rfl (by decide) ?_
    refine Ex_stat 0 dX12_behindWay_53 rfl rfl (Or.inl rfl) rfl rfl rfl rfl rfl rfl (Ex_post (x12_held (by omega) (by omega)) ?_)
    rintro _ _ ⟨rfl, e0⟩
    obtain rfl := Eq.symm e0
    rw [hl_cl]
    refine Ex_istore (L2 := [_, _, _, _, _, _]) dX12_behindWay_56 rfl rfl rfl ?_
    refine Ex_iload dX12_behindWay_58 rfl rfl ?_
    refine Ex_iload dX12_behindWay_60 rfl rfl ?_
    refine Ex_aload_n dX12_behindWay_62 rfl rfl ?_
    refine Ex_iload_n dX12_behindWay_63 rfl rfl ?_
    refine Ex_iload dX12_behindWay_64 rfl rfl ?_
    refine Ex_inv 2 dX12_behindWay_66 rfl rfl (Or.inl rfl) rfl rfl rfl rfl (ma0 M) rfl rfl rfl (Ex_post (x12_needsAt M hn6 hK hc (by omega)) ?_)
    rintro _ _ ⟨rfl, e0⟩
    obtain rfl := Eq.symm e0
    refine Ex_iconst dX12_behindWay_69 rfl ?_
    refine Ex_iadd dX12_behindWay_70 rfl ?_
    refine Ex_icmp_lt (t := 78) dX12_behindWay_71 rfl rfl (by omega) (fun c71 => ?_) (fun c71 => ?_)
    · refine Ex_iconst dX12_behindWay_78 rfl ?_
      refine Ex_iadd dX12_behindWay_79 rfl ?_
      refine Ex_istore (L2 := [_, _, _, _, _, _]) dX12_behindWay_80 rfl rfl rfl ?_
      refine Ex_goto (t := 118) dX12_behindWay_82 rfl ?_
      refine Ex_bipush dX12_behindWay_118 rfl (by decide) ?_
      refine Ex_iload dX12_behindWay_120 rfl rfl ?_
      refine Ex_imul dX12_behindWay_122 rfl ?_
      refine Ex_iload dX12_behindWay_123 rfl rfl ?_
      refine Ex_iadd dX12_behindWay_125 rfl ?_
      refine Ex_iret dX12_behindWay_126 rfl rfl ?_
      refine ⟨ri ?_, rfl⟩
      unfold sp_cl at *
      first | omega | (simp only [if_true, if_false, sp_cl] ; (repeat' split) <;> omega)
    · refine Ex_iconst dX12_behindWay_74 rfl ?_
      refine Ex_goto (t := 79) dX12_behindWay_75 rfl ?_
      refine Ex_iadd dX12_behindWay_79 rfl ?_
      refine Ex_istore (L2 := [_, _, _, _, _, _]) dX12_behindWay_80 rfl rfl rfl ?_
      refine Ex_goto (t := 118) dX12_behindWay_82 rfl ?_
      refine Ex_bipush dX12_behindWay_118 rfl (by decide) ?_
      refine Ex_iload dX12_behindWay_120 rfl rfl ?_
      refine Ex_imul dX12_behindWay_122 rfl ?_
      refine Ex_iload dX12_behindWay_123 rfl rfl ?_
      refine Ex_iadd dX12_behindWay_125 rfl ?_
      refine Ex_iret dX12_behindWay_126 rfl rfl ?_
      refine ⟨ri ?_, rfl⟩
      unfold sp_cl at *
      first | omega | (simp only [if_true, if_false, sp_cl] ; (repeat' split) <;> omega)
  · subst e
    refine Ex_iload_n dX12_behindWay_0 rfl rfl ?_
    refine Ex_bipush dX12_behindWay_1 rfl (by decide) ?_
    refine Ex_idiv dX12_behindWay_3 rfl (by omega) (by omega) ?_
    rw [hsq]
    refine Ex_istore (L2 := [_, _, _, _, _, _]) dX12_behindWay_4 rfl rfl rfl ?_
    refine Ex_iload_n dX12_behindWay_6 rfl rfl ?_
    refine Ex_bipush dX12_behindWay_7 rfl (by decide) ?_
    refine Ex_irem dX12_behindWay_9 rfl (by omega) (by omega) ?_
    rw [htq]
    refine Ex_istore (L2 := [_, _, _, _, _, _]) dX12_behindWay_10 rfl rfl rfl ?_
    refine Ex_iload_n dX12_behindWay_12 rfl rfl ?_
    refine Ex_if_ne (t := 34) dX12_behindWay_13 rfl rfl (by omega) (fun c13 => ?_) (fun c13 => absurd c13 (by omega))
    refine Ex_iload_n dX12_behindWay_34 rfl rfl ?_
    refine Ex_iconst dX12_behindWay_35 rfl ?_
    refine Ex_icmp_ne (t := 85) dX12_behindWay_36 rfl rfl (by omega) (fun c36 => ?_) (fun c36 => absurd c36 (by omega))
    refine Ex_iload dX12_behindWay_85 rfl rfl ?_
    refine Ex_aload_n dX12_behindWay_87 rfl rfl ?_
    refine Ex_iload_n dX12_behindWay_88 rfl rfl ?_
    refine Ex_iload dX12_behindWay_89 rfl rfl ?_
    refine Ex_inv 2 dX12_behindWay_91 rfl rfl (Or.inl rfl) rfl rfl rfl rfl (ma0 M) rfl rfl rfl (Ex_post (x12_needsAt M hn6 hK hc (by omega)) ?_)
    rintro _ _ ⟨rfl, e0⟩
    obtain rfl := Eq.symm e0
    refine Ex_icmp_lt (t := 103) dX12_behindWay_94 rfl rfl (by omega) (fun c94 => ?_) (fun c94 => ?_)
    · refine Ex_iload dX12_behindWay_103 rfl rfl ?_
      refine Ex_aload_n dX12_behindWay_105 rfl rfl ?_
      refine Ex_iload_n dX12_behindWay_106 rfl rfl ?_
      refine Ex_inv 2 dX12_behindWay_107 rfl rfl (Or.inl rfl) rfl rfl rfl rfl (ma0 M) rfl rfl rfl (Ex_post (x12_frightOf M hn6 hK hc) ?_)
      rintro _ _ ⟨rfl, e0⟩
      obtain rfl := Eq.symm e0
      refine Ex_isub dX12_behindWay_110 rfl ?_
      refine Ex_bipush dX12_behindWay_111 rfl (by decide) ?_
      refine Ex_stat 0 dX12_behindWay_113 rfl rfl (Or.inl rfl) rfl rfl rfl rfl rfl rfl (Ex_post (x12_held (by omega) (by omega)) ?_)
      rintro _ _ ⟨rfl, e0⟩
      obtain rfl := Eq.symm e0
      rw [hl_cl]
      refine Ex_istore (L2 := [_, _, _, _, _, _]) dX12_behindWay_116 rfl rfl rfl ?_
      refine Ex_bipush dX12_behindWay_118 rfl (by decide) ?_
      refine Ex_iload dX12_behindWay_120 rfl rfl ?_
      refine Ex_imul dX12_behindWay_122 rfl ?_
      refine Ex_iload dX12_behindWay_123 rfl rfl ?_
      refine Ex_iadd dX12_behindWay_125 rfl ?_
      refine Ex_iret dX12_behindWay_126 rfl rfl ?_
      refine ⟨ri ?_, rfl⟩
      unfold sp_cl at *
      first | omega | (simp only [if_true, if_false, sp_cl] ; (repeat' split) <;> omega)
    · refine Ex_iinc (L2 := [_, _, _, _, _, _]) dX12_behindWay_97 rfl rfl rfl ?_
      refine Ex_goto (t := 118) dX12_behindWay_100 rfl ?_
      refine Ex_bipush dX12_behindWay_118 rfl (by decide) ?_
      refine Ex_iload dX12_behindWay_120 rfl rfl ?_
      refine Ex_imul dX12_behindWay_122 rfl ?_
      refine Ex_iload dX12_behindWay_123 rfl rfl ?_
      refine Ex_iadd dX12_behindWay_125 rfl ?_
      refine Ex_iret dX12_behindWay_126 rfl rfl ?_
      refine ⟨ri ?_, rfl⟩
      unfold sp_cl at *
      first | omega | (simp only [if_true, if_false, sp_cl] ; (repeat' split) <;> omega)
/-- between the table at a sweep's start and now -/
def SW (k f : Int) (fw : Nat) (d0 d : Nat → Int) (ch : Bool) (q w : Nat) : Prop := TJ k f fw d ∧ sm d 0 168 ≤ sm d0 0 168 ∧ (ch = true → sm d 0 168 < sm d0 0 168) ∧ (ch = false → d = d0 ∧ ∀ p v, p < 147 → fw ≤ v → v < 3 → (q < p ∨ p = q ∧ v < w) → d0 p ≤ d0 (nxs k f v p) + 1)
theorem SW.low {k f : Int} {fw q w : Nat} {d0 d : Nat → Int} {ch : Bool} (Z : SW k f fw d0 d ch q w) (hf : 0 ≤ f ∧ f ≤ 9) (hq : q < 147) (hw : fw ≤ w ∧ w < 3) (h : d (nxs k f w q) + 1 < d q) : SW k f fw d0 (fu d q (d (nxs k f w q) + 1)) true q (w + 1) := by
  obtain ⟨z1, z2, z3, z4⟩ := Z
  have e := sm_fu (d := d) (q := q) (v := d (nxs k f w q) + 1) 168 0
  rw [if_pos (by omega)] at e
  exact ⟨z1.step hf hq hw h, by omega, fun _ => by omega, fun z => by cases z⟩
theorem SW.keep {k f : Int} {fw q w : Nat} {d0 d : Nat → Int} {ch : Bool} (Z : SW k f fw d0 d ch q w) (h : ¬ d (nxs k f w q) + 1 < d q) : SW k f fw d0 d ch q (w + 1) := by
  obtain ⟨z1, z2, z3, z4⟩ := Z
  refine ⟨z1, z2, z3, fun z => ?_⟩
  obtain ⟨e, y⟩ := z4 z
  refine ⟨e, fun p v h1 h2 h3 h4 => ?_⟩
  by_cases e2 : p = q ∧ v = w
  · rw [e2.1, e2.2, ← e]; omega
  · exact y p v h1 h2 h3 (by omega)
