/-! ALONE in the class (by program: wip/whole/spec_x.py) -/
def FrW (h h1 : Hp) (x : Nat) : Prop := h1.2 = h.2 ∧ ∀ q, q ≠ x + 2 → q ≠ x + 3 → q ≠ x + 55 → h1.1 q = h.1 q
theorem FrW.rf (h : Hp) (x : Nat) : FrW h h x := ⟨rfl, fun _ _ _ _ => rfl⟩
theorem FrW.trans {h h1 h2 : Hp} {x : Nat} (a : FrW h h1 x) (b : FrW h1 h2 x) : FrW h h2 x := ⟨b.1.trans a.1, fun q h1 h2 h3 => (b.2 q h1 h2 h3).trans (a.2 q h1 h2 h3)⟩
theorem FrW.frS {h h1 : Hp} {x : Nat} (f : FrW h h1 x) : FrS h h1 x := ⟨f.1, fun q hq => f.2 q (by omega) (by omega) (by omega)⟩
theorem FrW.put {h : Hp} {x a : Nat} (v : OC) (ha : a = x + 2 ∨ a = x + 3 ∨ a = x + 55) : FrW h (am_put h a v) x := ⟨rfl, fun q _ _ _ => am_pg2 (by omega)⟩
def FS (h : Hp) (x a kr : Nat) (hi bs : Int) (mt f3 : Nat → Int) (k f t s c : Int) : Prop := h.1 x = some (ccell x hi bs) ∧ h.1 (x + 2) = some (20, fa 168 mt) ∧ h.1 (x + 3) = some (20, fa 168 f3) ∧ PupAny h (x + 55) ∧ h.1 a = some (pcell kr t s c) ∧ KindAt h kr k f
def FA (x a kr : Nat) : Prop := (a ≠ x ∧ a ≠ x + 2 ∧ a ≠ x + 3 ∧ a ≠ x + 55) ∧ x + 57 ≤ kr
theorem FS.m {h : Hp} {x a kr : Nat} {hi bs : Int} {mt f3 mt2 : Nat → Int} {k f t s c : Int} (F : FS h x a kr hi bs mt f3 k f t s c) (A : FA x a kr) : FS (am_put h (x + 2) (20, fa 168 mt2)) x a kr hi bs mt2 f3 k f t s c := by
  obtain ⟨a0, a1, a2, a3, a4, a5⟩ := F
  obtain ⟨b1, b2⟩ := A
  exact ⟨(am_pg2 (by omega)).trans a0, am_pg1 _ _ _, (am_pg2 (by omega)).trans a2, a3.eq (am_pg2 (by omega)), (am_pg2 (by omega)).trans a4, a5.kept (am_pg2 (by omega)) (am_pg2 (by omega))⟩
theorem FS.q {h : Hp} {x a kr : Nat} {hi bs : Int} {mt f3 f32 : Nat → Int} {k f t s c : Int} (F : FS h x a kr hi bs mt f3 k f t s c) (A : FA x a kr) : FS (am_put h (x + 3) (20, fa 168 f32)) x a kr hi bs mt f32 k f t s c := by
  obtain ⟨a0, a1, a2, a3, a4, a5⟩ := F
  obtain ⟨b1, b2⟩ := A
  exact ⟨(am_pg2 (by omega)).trans a0, (am_pg2 (by omega)).trans a1, am_pg1 _ _ _, a3.eq (am_pg2 (by omega)), (am_pg2 (by omega)).trans a4, a5.kept (am_pg2 (by omega)) (am_pg2 (by omega))⟩
theorem FS.w {h : Hp} {x a kr k5 : Nat} {hi bs : Int} {mt f3 : Nat → Int} {k f t s c t5 s5 c5 : Int} (F : FS h x a kr hi bs mt f3 k f t s c) (A : FA x a kr) : FS (am_put h (x + 55) (pcell k5 t5 s5 c5)) x a kr hi bs mt f3 k f t s c := by
  obtain ⟨a0, a1, a2, a3, a4, a5⟩ := F
  obtain ⟨b1, b2⟩ := A
  exact ⟨(am_pg2 (by omega)).trans a0, (am_pg2 (by omega)).trans a1, (am_pg2 (by omega)).trans a2, ⟨_, _, _, _, am_pg1 _ _ _⟩, (am_pg2 (by omega)).trans a4, a5.kept (am_pg2 (by omega)) (am_pg2 (by omega))⟩
/-- what one's ALONE is about -/
def alo (k f : Int) (fw : Nat) (t s : Int) : Int := fewA k f fw (21 * s + t).toNat
theorem j7_fill_l {E : am_E} {d : Nat} {a N : Nat} {v : Int}  (hB : E.2 ≤ a) (hN : N ≤ 100000)  : ∀ (k : Nat) (i : Nat) (g : Nat → Int) (h : Hp), i + k = N → h.1 a = some (20, fa N g) → (∀ j, j < i → g j = v) → Ex E d mJ7_fill_53178 5 [.ref a, .int (i32 v), .int (i32 (i : Int)), .int (i32 (N : Int))] [] h (fun r1 h1 => r1 = none ∧ h1.1 a = some (20, fa N (fun _ => v)) ∧ Fr h h1 a (a + 1)) := by
  intro k
  induction k with
  | zero =>
    intro i g h hk hp hg
    refine Ex_iload_n dJ7_fill_53178_5 rfl rfl ?_
    refine Ex_iload_n dJ7_fill_53178_6 rfl rfl ?_
    refine Ex_icmp_ge (t := 20) dJ7_fill_53178_7 rfl rfl (by omega) (fun c7 => ?_) (fun c7 => absurd c7 (by omega))
    refine Ex_vret dJ7_fill_53178_20 rfl ?_
    exact ⟨rfl, by rw [hp, fa_cg (fun j hj => hg j (by omega))], Fr.rf _ _ _⟩
  | succ k ih =>
    intro i g h hk hp hg
    refine Ex_iload_n dJ7_fill_53178_5 rfl rfl ?_
    refine Ex_iload_n dJ7_fill_53178_6 rfl rfl ?_
    refine Ex_icmp_ge (t := 20) dJ7_fill_53178_7 rfl rfl (by omega) (fun c7 => absurd c7 (by omega)) (fun c7 => ?_)
    refine Ex_aload_n dJ7_fill_53178_10 rfl rfl ?_
    refine Ex_iload_n dJ7_fill_53178_11 rfl rfl ?_
    refine Ex_iload_n dJ7_fill_53178_12 rfl rfl ?_
    refine Ex_iast dJ7_fill_53178_13 rfl hp (by omega) (by rw [fa_len]; show i < N; omega) (by omega) fa_set ?_
    refine Ex_iinc (L2 := [_, _, _, _]) dJ7_fill_53178_14 rfl rfl rfl ?_
    refine Ex_goto (t := 5) dJ7_fill_53178_17 rfl ?_
    refine Ex_post (ih (i + 1) (fu g i v) _ (by omega) (am_pg1 _ _ _) (fun j hj => ?_)) ?_
    · by_cases e : j = i
      · subst e; exact fu_at _ _ _
      · rw [fu_ne e]; exact hg j (by omega)
    · rintro r1 h1 ⟨rfl, y2, y3⟩
      exact ⟨rfl, y2, (Fr.put _ (by omega)).trans y3⟩
theorem j7_fill {E : am_E} {d : Nat} {h : Hp} {a N : Nat} {v : Int} {g : Nat → Int}  (hp : h.1 a = some (20, fa N g)) (hB : E.2 ≤ a) (hN : N ≤ 100000)  : Ex E d mJ7_fill_53178 0 [.ref a, .int (i32 v), .retAddr 0, .retAddr 0] [] h (fun r1 h1 => r1 = none ∧ h1.1 a = some (20, fa N (fun _ => v)) ∧ Fr h h1 a (a + 1)) := by
  refine Ex_iconst dJ7_fill_53178_0 rfl ?_
  refine Ex_istore_n (L2 := [_, _, _, _]) dJ7_fill_53178_1 rfl rfl rfl ?_
  refine Ex_aload_n dJ7_fill_53178_2 rfl rfl ?_
  refine Ex_alen (n := (N : Int)) dJ7_fill_53178_3 rfl hp (by omega) (by rw [fa_len]) ?_
  refine Ex_istore_n (L2 := [_, _, _, _]) dJ7_fill_53178_4 rfl rfl rfl ?_
  exact j7_fill_l hB hN N 0 g h (by omega) hp (fun j hj => absurd hj (by omega))
theorem x11_stateOf {E : am_E} {d : Nat} {h : Hp} {a kr : Nat} {t s c : Int}  (hp : h.1 a = some (pcell kr t s c))  : Ex E d mX11_stateOf 0 [.ref a] [] h (fun r1 h1 => r1 = some (.int (i32 (s * 21 + t))) ∧ h1 = h) := by
  refine Ex_aload_n dX11_stateOf_0 rfl rfl ?_
  refine Ex_getf dX11_stateOf_1 rfl hp rfl rfl rfl ?_
  refine Ex_bipush dX11_stateOf_4 rfl (by decide) ?_
  refine Ex_imul dX11_stateOf_6 rfl ?_
  refine Ex_aload_n dX11_stateOf_7 rfl rfl ?_
  refine Ex_getf dX11_stateOf_8 rfl hp rfl rfl rfl ?_
  refine Ex_iadd dX11_stateOf_11 rfl ?_
  refine Ex_iret dX11_stateOf_12 rfl rfl ?_
  exact ⟨rfl, rfl⟩
theorem x11_reach_no {E : am_E} {d : Nat} {h : Hp} {x q e : Nat} {hi bs v : Int} {mt f3 : Nat → Int}  (a0 : h.1 x = some (ccell x hi bs)) (a1 : h.1 (x + 2) = some (20, fa 168 mt)) (a2 : h.1 (x + 3) = some (20, fa 168 f3)) (hq : q < 168) (he : e ≤ 168) (hm : mt q ≠ -1) (hr : -1 ≤ mt q ∧ mt q ≤ 168)  : Ex E (d + 1) mX11_reach 0 [.ref x, .int (i32 (q : Int)), .int (i32 v), .int (i32 (e : Int))] [] h (fun r1 h1 => r1 = some (.int (i32 (e : Int))) ∧ h1 = h) := by
  by_cases he2 : e < 168
  · refine Ex_iload_n dX11_reach_0 rfl rfl ?_
    refine Ex_iconst dX11_reach_1 rfl ?_
    refine Ex_aload_n dX11_reach_2 rfl rfl ?_
    refine Ex_getf dX11_reach_3 rfl a0 rfl rfl rfl ?_
    refine Ex_alen (n := 168) dX11_reach_6 rfl a1 (by omega) (by rw [fa_len]; rfl) ?_
    refine Ex_iconst dX11_reach_7 rfl ?_
    refine Ex_isub dX11_reach_8 rfl ?_
    refine Ex_stat 0 dX11_reach_9 rfl rfl (Or.inl rfl) rfl rfl rfl rfl rfl rfl (Ex_post (x11_within (by omega)) ?_)
    rintro _ _ ⟨rfl, e0⟩
    obtain rfl := Eq.symm e0
    refine Ex_if_eq (t := 40) dX11_reach_12 rfl rfl (by omega) (fun c12 => absurd c12 (by omega)) (fun c12 => ?_)
    refine Ex_iload_n dX11_reach_15 rfl rfl ?_
    refine Ex_iconst dX11_reach_16 rfl ?_
    refine Ex_aload_n dX11_reach_17 rfl rfl ?_
    refine Ex_getf dX11_reach_18 rfl a0 rfl rfl rfl ?_
    refine Ex_alen (n := 168) dX11_reach_21 rfl a2 (by omega) (by rw [fa_len]; rfl) ?_
    refine Ex_iconst dX11_reach_22 rfl ?_
    refine Ex_isub dX11_reach_23 rfl ?_
    refine Ex_stat 0 dX11_reach_24 rfl rfl (Or.inl rfl) rfl rfl rfl rfl rfl rfl (Ex_post (x11_within (by omega)) ?_)
    rintro _ _ ⟨rfl, e0⟩
    obtain rfl := Eq.symm e0
    refine Ex_if_eq (t := 40) dX11_reach_27 rfl rfl (by omega) (fun c27 => absurd c27 (by omega)) (fun c27 => ?_)
    refine Ex_aload_n dX11_reach_30 rfl rfl ?_
    refine Ex_getf dX11_reach_31 rfl a0 rfl rfl rfl ?_
    refine Ex_iload_n dX11_reach_34 rfl rfl ?_
    refine Ex_iald dX11_reach_35 rfl a1 (by omega) (fa_get (show ((q : Nat) : Int).toNat < 168 by omega)) ?_
    rw [show mt ((q : Nat) : Int).toNat = mt q from rfl]
    refine Ex_iconst dX11_reach_36 rfl ?_
    refine Ex_icmp_eq (t := 42) dX11_reach_37 rfl rfl (by omega) (fun c37 => absurd c37 hm) (fun c37 => ?_)
    refine Ex_iload_n dX11_reach_40 rfl rfl ?_
    refine Ex_iret dX11_reach_41 rfl rfl ?_
    exact ⟨rfl, rfl⟩
  · refine Ex_iload_n dX11_reach_0 rfl rfl ?_
    refine Ex_iconst dX11_reach_1 rfl ?_
    refine Ex_aload_n dX11_reach_2 rfl rfl ?_
    refine Ex_getf dX11_reach_3 rfl a0 rfl rfl rfl ?_
    refine Ex_alen (n := 168) dX11_reach_6 rfl a1 (by omega) (by rw [fa_len]; rfl) ?_
    refine Ex_iconst dX11_reach_7 rfl ?_
    refine Ex_isub dX11_reach_8 rfl ?_
    refine Ex_stat 0 dX11_reach_9 rfl rfl (Or.inl rfl) rfl rfl rfl rfl rfl rfl (Ex_post (x11_within (by omega)) ?_)
    rintro _ _ ⟨rfl, e0⟩
    obtain rfl := Eq.symm e0
    refine Ex_if_eq (t := 40) dX11_reach_12 rfl rfl (by omega) (fun c12 => absurd c12 (by omega)) (fun c12 => ?_)
    refine Ex_iload_n dX11_reach_15 rfl rfl ?_
    refine Ex_iconst dX11_reach_16 rfl ?_
    refine Ex_aload_n dX11_reach_17 rfl rfl ?_
    refine Ex_getf dX11_reach_18 rfl a0 rfl rfl rfl ?_
    refine Ex_alen (n := 168) dX11_reach_21 rfl a2 (by omega) (by rw [fa_len]; rfl) ?_
    refine Ex_iconst dX11_reach_22 rfl ?_
    refine Ex_isub dX11_reach_23 rfl ?_
    refine Ex_stat 0 dX11_reach_24 rfl rfl (Or.inl rfl) rfl rfl rfl rfl rfl rfl (Ex_post (x11_within (by omega)) ?_)
    rintro _ _ ⟨rfl, e0⟩
    obtain rfl := Eq.symm e0
    refine Ex_if_eq (t := 40) dX11_reach_27 rfl rfl (by omega) (fun c27 => ?_) (fun c27 => absurd c27 (by omega))
    refine Ex_iload_n dX11_reach_40 rfl rfl ?_
    refine Ex_iret dX11_reach_41 rfl rfl ?_
    exact ⟨rfl, rfl⟩
theorem x11_reach_yes {E : am_E} {d : Nat} {h : Hp} {x q e : Nat} {hi bs v : Int} {mt f3 : Nat → Int}  (a0 : h.1 x = some (ccell x hi bs)) (a1 : h.1 (x + 2) = some (20, fa 168 mt)) (a2 : h.1 (x + 3) = some (20, fa 168 f3)) (hq : q < 168) (he : e < 168) (hm : mt q = -1) (hB : E.2 ≤ x)  : Ex E (d + 1) mX11_reach 0 [.ref x, .int (i32 (q : Int)), .int (i32 v), .int (i32 (e : Int))] [] h (fun r1 h1 => r1 = some (.int (i32 ((e : Int) + 1))) ∧ h1 = am_put (am_put h (x + 2) (20, fa 168 (fu mt q v))) (x + 3) (20, fa 168 (fu f3 e (q : Int)))) := by
  refine Ex_iload_n dX11_reach_0 rfl rfl ?_
  refine Ex_iconst dX11_reach_1 rfl ?_
  refine Ex_aload_n dX11_reach_2 rfl rfl ?_
  refine Ex_getf dX11_reach_3 rfl a0 rfl rfl rfl ?_
  refine Ex_alen (n := 168) dX11_reach_6 rfl a1 (by omega) (by rw [fa_len]; rfl) ?_
  refine Ex_iconst dX11_reach_7 rfl ?_
  refine Ex_isub dX11_reach_8 rfl ?_
  refine Ex_stat 0 dX11_reach_9 rfl rfl (Or.inl rfl) rfl rfl rfl rfl rfl rfl (Ex_post (x11_within (by omega)) ?_)
  rintro _ _ ⟨rfl, e0⟩
  obtain rfl := Eq.symm e0
  refine Ex_if_eq (t := 40) dX11_reach_12 rfl rfl (by omega) (fun c12 => absurd c12 (by omega)) (fun c12 => ?_)
  refine Ex_iload_n dX11_reach_15 rfl rfl ?_
  refine Ex_iconst dX11_reach_16 rfl ?_
  refine Ex_aload_n dX11_reach_17 rfl rfl ?_
  refine Ex_getf dX11_reach_18 rfl a0 rfl rfl rfl ?_
  refine Ex_alen (n := 168) dX11_reach_21 rfl a2 (by omega) (by rw [fa_len]; rfl) ?_
  refine Ex_iconst dX11_reach_22 rfl ?_
  refine Ex_isub dX11_reach_23 rfl ?_
  refine Ex_stat 0 dX11_reach_24 rfl rfl (Or.inl rfl) rfl rfl rfl rfl rfl rfl (Ex_post (x11_within (by omega)) ?_)
  rintro _ _ ⟨rfl, e0⟩
  obtain rfl := Eq.symm e0
  refine Ex_if_eq (t := 40) dX11_reach_27 rfl rfl (by omega) (fun c27 => absurd c27 (by omega)) (fun c27 => ?_)
  refine Ex_aload_n dX11_reach_30 rfl rfl ?_
  refine Ex_getf dX11_reach_31 rfl a0 rfl rfl rfl ?_
  refine Ex_iload_n dX11_reach_34 rfl rfl ?_
  refine Ex_iald dX11_reach_35 rfl a1 (by omega) (fa_get (show ((q : Nat) : Int).toNat < 168 by omega)) ?_
  rw [show mt ((q : Nat) : Int).toNat = mt q from rfl]
  refine Ex_iconst dX11_reach_36 rfl ?_
  refine Ex_icmp_eq (t := 42) dX11_reach_37 rfl rfl (by omega) (fun c37 => ?_) (fun c37 => absurd c37 (fun z => z hm))
  refine Ex_aload_n dX11_reach_42 rfl rfl ?_
  refine Ex_getf dX11_reach_43 rfl a0 rfl rfl rfl ?_
  refine Ex_iload_n dX11_reach_46 rfl rfl ?_
  refine Ex_iload_n dX11_reach_47 rfl rfl ?_
  refine Ex_iast dX11_reach_48 rfl a1 (by omega) (by rw [fa_len]; show q < 168; omega) (by omega) fa_set ?_
  refine Ex_aload_n dX11_reach_49 rfl rfl ?_
  refine Ex_getf dX11_reach_50 rfl ((am_pg2 (by omega)).trans a0) rfl rfl rfl ?_
  refine Ex_iload_n dX11_reach_53 rfl rfl ?_
  refine Ex_iload_n dX11_reach_54 rfl rfl ?_
  refine Ex_iast dX11_reach_55 rfl ((am_pg2 (by omega)).trans a2) (by omega) (by rw [fa_len]; show e < 168; omega) (by omega) fa_set ?_
  refine Ex_iload_n dX11_reach_56 rfl rfl ?_
  refine Ex_iconst dX11_reach_57 rfl ?_
  refine Ex_iadd dX11_reach_58 rfl ?_
  refine Ex_iret dX11_reach_59 rfl rfl ?_
  exact ⟨rfl, rfl⟩
theorem b_rng {k f : Int} {fw st0 e i w : Nat} {mt : Nat → Int} {qu : Nat → Nat} (b : BI k f fw st0 mt qu e i w) (q : Nat) (hq : q < 168) : -1 ≤ mt q ∧ mt q ≤ 168 := by
  obtain ⟨b1, b2, b3, -⟩ := b
  rcases b3 q hq with h | ⟨j, hj, h⟩
  · omega
  · have := b2 j hj
    rw [h] at this
    omega
theorem x11_few_i {E : am_E} {d : Nat} {x a kr fw st0 i : Nat} {hi bs k f t s c mu : Int} {Q : Option Value → Hp → Prop} (hB : E.2 ≤ x) (A : FA x a kr) (hfw : fw ≤ 1) (hf : 0 ≤ f ∧ f ≤ 9) : ∀ (j w e : Nat) (mt f3 : Nat → Int) (qu : Nat → Nat) (h : Hp), w + j = 3 → fw ≤ w → BI k f fw st0 mt qu e i w → i < e → qu i < 147 → (∀ j, j < e → f3 j = ((qu j : Nat) : Int)) → mt (qu i) = mu → FS h x a kr hi bs mt f3 k f t s c → (∀ (e2 : Nat) (mt2 f32 : Nat → Int) (qu2 : Nat → Nat) (h2 : Hp), BI k f fw st0 mt2 qu2 e2 i 3 → qu2 i = qu i → i < e2 → (∀ j, j < e2 → f32 j = ((qu2 j : Nat) : Int)) → FS h2 x a kr hi bs mt2 f32 k f t s c → FrW h h2 x → Ex E (d + 4) mX11_fewestAlone 158 [.ref x, .ref a, .int (i32 (fw : Int)), .int (i32 (e2 : Int)), .int (i32 (i : Int)), .int (i32 ((qu i : Nat) : Int)), .int (i32 mu), .int (i32 3)] [] h2 Q) → Ex E (d + 4) mX11_fewestAlone 84 [.ref x, .ref a, .int (i32 (fw : Int)), .int (i32 (e : Int)), .int (i32 (i : Int)), .int (i32 ((qu i : Nat) : Int)), .int (i32 mu), .int (i32 (w : Int))] [] h Q := by
  intro j
  induction j with
  | zero =>
    intro w e mt f3 qu h hwj hfww b hie hq hf3 hmu F kont
    obtain rfl : w = 3 := by omega
    refine Ex_iload dX11_fewestAlone_84 rfl rfl ?_
    refine Ex_iconst dX11_fewestAlone_86 rfl ?_
    refine Ex_icmp_gt (t := 158) dX11_fewestAlone_87 rfl rfl (by omega) (fun c87 => ?_) (fun c87 => absurd c87 (by omega))
    exact kont e mt f3 qu h b rfl hie hf3 F (FrW.rf _ _)
  | succ j ih =>
    intro w e mt f3 qu h hwj hfww b hie hq hf3 hmu F kont
    obtain ⟨a0, a1, a2, ⟨k5, t5, s5, c5, a3⟩, a4, a5⟩ := id F
    have A' := A
    obtain ⟨A1, A2⟩ := A'
    have hnx := nxs_v (k := k) (w := w) hf hq
    have hb2 := b.2.1 i hie
    have e1 : ((qu i : Nat) : Int) % 21 = ((qu i % 21 : Nat) : Int) := by omega
    have e2 : ((qu i : Nat) : Int) / 21 = ((qu i / 21 : Nat) : Int) := by omega
    have ebd := b.1
    by_cases hm : mt (nxs k f w (qu i)) = -1
    rotate_left
    · refine Ex_iload dX11_fewestAlone_84 rfl rfl ?_
      refine Ex_iconst dX11_fewestAlone_86 rfl ?_
      refine Ex_icmp_gt (t := 158) dX11_fewestAlone_87 rfl rfl (by omega) (fun c87 => absurd c87 (by omega)) (fun c87 => ?_)
      refine Ex_aload_n dX11_fewestAlone_90 rfl rfl ?_
      refine Ex_getf dX11_fewestAlone_91 rfl a0 rfl rfl rfl ?_
      refine Ex_aload_n dX11_fewestAlone_94 rfl rfl ?_
      refine Ex_getf dX11_fewestAlone_95 rfl a4 rfl rfl rfl ?_
      refine Ex_putf (fs2 := [_, _, _, _]) dX11_fewestAlone_98 rfl a3 rfl rfl rfl rfl rfl (by omega) rfl ?_
      try rw [am_put2]
      refine Ex_aload_n dX11_fewestAlone_101 rfl rfl ?_
      refine Ex_getf dX11_fewestAlone_102 rfl ((am_pg2 (by omega)).trans a0) rfl rfl rfl ?_
      refine Ex_iload dX11_fewestAlone_105 rfl rfl ?_
      refine Ex_bipush dX11_fewestAlone_107 rfl (by decide) ?_
      refine Ex_irem dX11_fewestAlone_109 rfl (by omega) (by omega) ?_
      rw [e1]
      refine Ex_putf (fs2 := [_, _, _, _]) dX11_fewestAlone_110 rfl (am_pg1 _ _ _) rfl rfl rfl rfl rfl (by omega) rfl ?_
      try rw [am_put2]
      refine Ex_aload_n dX11_fewestAlone_113 rfl rfl ?_
      refine Ex_getf dX11_fewestAlone_114 rfl ((am_pg2 (by omega)).trans a0) rfl rfl rfl ?_
      refine Ex_iload dX11_fewestAlone_117 rfl rfl ?_
      refine Ex_bipush dX11_fewestAlone_119 rfl (by decide) ?_
      refine Ex_idiv dX11_fewestAlone_121 rfl (by omega) (by omega) ?_
      rw [e2]
      refine Ex_putf (fs2 := [_, _, _, _]) dX11_fewestAlone_122 rfl (am_pg1 _ _ _) rfl rfl rfl rfl rfl (by omega) rfl ?_
      try rw [am_put2]
      refine Ex_aload_n dX11_fewestAlone_125 rfl rfl ?_
      refine Ex_getf dX11_fewestAlone_126 rfl ((am_pg2 (by omega)).trans a0) rfl rfl rfl ?_
      refine Ex_iload dX11_fewestAlone_129 rfl rfl ?_
      refine Ex_inv 2 dX11_fewestAlone_131 rfl rfl (Or.inl rfl) rfl rfl rfl rfl (am_pg1 _ _ _) rfl rfl rfl (Ex_post (x5_meets (am_pg1 _ _ _) (by omega) (by omega) (by omega) (a5.kept (am_pg2 (by omega)) (am_pg2 (by omega))) (by omega) (by omega)) ?_)
      rintro _ _ ⟨rfl, rfl⟩
      rw [am_put2]
      obtain ⟨h8, hh8⟩ : ∃ h8, h8 = am_put h (x + 55) (pcell kr (sp_mt k f (w : Int) ((qu i % 21 : Nat) : Int) ((qu i / 21 : Nat) : Int)) (sp_ms k f (w : Int) ((qu i % 21 : Nat) : Int) ((qu i / 21 : Nat) : Int)) c5) := ⟨_, rfl⟩
      rw [← hh8]
      have F8 : FS h8 x a kr hi bs mt f3 k f t s c := by rw [hh8]; exact F.w A
      have f8 : FrW h h8 x := by rw [hh8]; exact FrW.put _ (by omega)
      have c8 : h8.1 (x + 55) = some (pcell kr (sp_mt k f (w : Int) ((qu i % 21 : Nat) : Int) ((qu i / 21 : Nat) : Int)) (sp_ms k f (w : Int) ((qu i % 21 : Nat) : Int) ((qu i / 21 : Nat) : Int)) c5) := by rw [hh8]; exact am_pg1 _ _ _
      obtain ⟨g0, g1, g2, g3, g4, g5⟩ := id F8
      refine Ex_pop dX11_fewestAlone_134 rfl rfl ?_
      refine Ex_aload_n dX11_fewestAlone_135 rfl rfl ?_
      refine Ex_aload_n dX11_fewestAlone_136 rfl rfl ?_
      refine Ex_getf dX11_fewestAlone_137 rfl g0 rfl rfl rfl ?_
      refine Ex_stat 0 dX11_fewestAlone_140 rfl rfl (Or.inl rfl) rfl rfl rfl rfl rfl rfl (Ex_post (x11_stateOf c8) ?_)
      rintro _ _ ⟨rfl, e0⟩
      obtain rfl := Eq.symm e0
      rw [show sp_ms k f (w : Int) ((qu i % 21 : Nat) : Int) ((qu i / 21 : Nat) : Int) * 21 + sp_mt k f (w : Int) ((qu i % 21 : Nat) : Int) ((qu i / 21 : Nat) : Int) = ((nxs k f w (qu i) : Nat) : Int) by omega]
      refine Ex_iload dX11_fewestAlone_143 rfl rfl ?_
      refine Ex_iconst dX11_fewestAlone_145 rfl ?_
      refine Ex_iadd dX11_fewestAlone_146 rfl ?_
      refine Ex_iload_n dX11_fewestAlone_147 rfl rfl ?_
      refine Ex_inv 2 dX11_fewestAlone_148 rfl rfl (Or.inl rfl) rfl rfl rfl rfl g0 rfl rfl rfl (Ex_post (x11_reach_no g0 g1 g2 hnx.2 ebd.1 hm (b_rng b (nxs k f w (qu i)) hnx.2)) ?_)
      rintro _ _ ⟨rfl, e9⟩
      obtain rfl := Eq.symm e9
      refine Ex_istore_n (L2 := [_, _, _, _, _, _, _, _]) dX11_fewestAlone_151 rfl rfl rfl ?_
      refine Ex_iinc (L2 := [_, _, _, _, _, _, _, _]) dX11_fewestAlone_152 rfl rfl rfl ?_
      refine Ex_goto (t := 84) dX11_fewestAlone_155 rfl ?_
      refine ih (w + 1) e mt f3 qu h8 (by omega) (by omega) (b.skip hie hnx.2 hm) hie hq hf3 hmu F8 ?_
      intro e2 mt2 f32 qu2 h2 y1 y2 y3 y4 y5 y6
      exact kont e2 mt2 f32 qu2 h2 y1 y2 y3 y4 y5 (f8.trans y6)
    · obtain ⟨he8, ba⟩ := b.add hie ⟨hfww, by omega⟩ hnx.2 hm
      rw [hmu] at ba
      refine Ex_iload dX11_fewestAlone_84 rfl rfl ?_
      refine Ex_iconst dX11_fewestAlone_86 rfl ?_
      refine Ex_icmp_gt (t := 158) dX11_fewestAlone_87 rfl rfl (by omega) (fun c87 => absurd c87 (by omega)) (fun c87 => ?_)
      refine Ex_aload_n dX11_fewestAlone_90 rfl rfl ?_
      refine Ex_getf dX11_fewestAlone_91 rfl a0 rfl rfl rfl ?_
      refine Ex_aload_n dX11_fewestAlone_94 rfl rfl ?_
      refine Ex_getf dX11_fewestAlone_95 rfl a4 rfl rfl rfl ?_
      refine Ex_putf (fs2 := [_, _, _, _]) dX11_fewestAlone_98 rfl a3 rfl rfl rfl rfl rfl (by omega) rfl ?_
      try rw [am_put2]
      refine Ex_aload_n dX11_fewestAlone_101 rfl rfl ?_
      refine Ex_getf dX11_fewestAlone_102 rfl ((am_pg2 (by omega)).trans a0) rfl rfl rfl ?_
      refine Ex_iload dX11_fewestAlone_105 rfl rfl ?_
      refine Ex_bipush dX11_fewestAlone_107 rfl (by decide) ?_
      refine Ex_irem dX11_fewestAlone_109 rfl (by omega) (by omega) ?_
      rw [e1]
      refine Ex_putf (fs2 := [_, _, _, _]) dX11_fewestAlone_110 rfl (am_pg1 _ _ _) rfl rfl rfl rfl rfl (by omega) rfl ?_
      try rw [am_put2]
      refine Ex_aload_n dX11_fewestAlone_113 rfl rfl ?_
      refine Ex_getf dX11_fewestAlone_114 rfl ((am_pg2 (by omega)).trans a0) rfl rfl rfl ?_
      refine Ex_iload dX11_fewestAlone_117 rfl rfl ?_
      refine Ex_bipush dX11_fewestAlone_119 rfl (by decide) ?_
      refine Ex_idiv dX11_fewestAlone_121 rfl (by omega) (by omega) ?_
      rw [e2]
      refine Ex_putf (fs2 := [_, _, _, _]) dX11_fewestAlone_122 rfl (am_pg1 _ _ _) rfl rfl rfl rfl rfl (by omega) rfl ?_
      try rw [am_put2]
      refine Ex_aload_n dX11_fewestAlone_125 rfl rfl ?_
      refine Ex_getf dX11_fewestAlone_126 rfl ((am_pg2 (by omega)).trans a0) rfl rfl rfl ?_
      refine Ex_iload dX11_fewestAlone_129 rfl rfl ?_
      refine Ex_inv 2 dX11_fewestAlone_131 rfl rfl (Or.inl rfl) rfl rfl rfl rfl (am_pg1 _ _ _) rfl rfl rfl (Ex_post (x5_meets (am_pg1 _ _ _) (by omega) (by omega) (by omega) (a5.kept (am_pg2 (by omega)) (am_pg2 (by omega))) (by omega) (by omega)) ?_)
      rintro _ _ ⟨rfl, rfl⟩
      rw [am_put2]
      obtain ⟨h8, hh8⟩ : ∃ h8, h8 = am_put h (x + 55) (pcell kr (sp_mt k f (w : Int) ((qu i % 21 : Nat) : Int) ((qu i / 21 : Nat) : Int)) (sp_ms k f (w : Int) ((qu i % 21 : Nat) : Int) ((qu i / 21 : Nat) : Int)) c5) := ⟨_, rfl⟩
      rw [← hh8]
      have F8 : FS h8 x a kr hi bs mt f3 k f t s c := by rw [hh8]; exact F.w A
      have f8 : FrW h h8 x := by rw [hh8]; exact FrW.put _ (by omega)
      have c8 : h8.1 (x + 55) = some (pcell kr (sp_mt k f (w : Int) ((qu i % 21 : Nat) : Int) ((qu i / 21 : Nat) : Int)) (sp_ms k f (w : Int) ((qu i % 21 : Nat) : Int) ((qu i / 21 : Nat) : Int)) c5) := by rw [hh8]; exact am_pg1 _ _ _
      obtain ⟨g0, g1, g2, g3, g4, g5⟩ := id F8
      refine Ex_pop dX11_fewestAlone_134 rfl rfl ?_
      refine Ex_aload_n dX11_fewestAlone_135 rfl rfl ?_
      refine Ex_aload_n dX11_fewestAlone_136 rfl rfl ?_
      refine Ex_getf dX11_fewestAlone_137 rfl g0 rfl rfl rfl ?_
      refine Ex_stat 0 dX11_fewestAlone_140 rfl rfl (Or.inl rfl) rfl rfl rfl rfl rfl rfl (Ex_post (x11_stateOf c8) ?_)
      rintro _ _ ⟨rfl, e0⟩
      obtain rfl := Eq.symm e0
      rw [show sp_ms k f (w : Int) ((qu i % 21 : Nat) : Int) ((qu i / 21 : Nat) : Int) * 21 + sp_mt k f (w : Int) ((qu i % 21 : Nat) : Int) ((qu i / 21 : Nat) : Int) = ((nxs k f w (qu i) : Nat) : Int) by omega]
      refine Ex_iload dX11_fewestAlone_143 rfl rfl ?_
      refine Ex_iconst dX11_fewestAlone_145 rfl ?_
      refine Ex_iadd dX11_fewestAlone_146 rfl ?_
      refine Ex_iload_n dX11_fewestAlone_147 rfl rfl ?_
      refine Ex_inv 2 dX11_fewestAlone_148 rfl rfl (Or.inl rfl) rfl rfl rfl rfl g0 rfl rfl rfl (Ex_post (x11_reach_yes g0 g1 g2 hnx.2 he8 hm hB) ?_)
      rintro _ _ ⟨rfl, rfl⟩
      obtain ⟨h7, hh7⟩ : ∃ h7, h7 = am_put h8 (x + 2) (20, fa 168 (fu mt (nxs k f w (qu i)) (mu + 1))) := ⟨_, rfl⟩
      rw [← hh7]
      have F7 : FS h7 x a kr hi bs (fu mt (nxs k f w (qu i)) (mu + 1)) f3 k f t s c := by rw [hh7]; exact F8.m A
      have f7 : FrW h8 h7 x := by rw [hh7]; exact FrW.put _ (by omega)
      obtain ⟨h6, hh6⟩ : ∃ h6, h6 = am_put h7 (x + 3) (20, fa 168 (fu f3 e ((nxs k f w (qu i) : Nat) : Int))) := ⟨_, rfl⟩
      rw [← hh6]
      have F6 : FS h6 x a kr hi bs (fu mt (nxs k f w (qu i)) (mu + 1)) (fu f3 e ((nxs k f w (qu i) : Nat) : Int)) k f t s c := by rw [hh6]; exact F7.q A
      have f6 : FrW h7 h6 x := by rw [hh6]; exact FrW.put _ (by omega)
      refine Ex_istore_n (L2 := [_, _, _, _, _, _, _, _]) dX11_fewestAlone_151 rfl rfl rfl ?_
      refine Ex_iinc (L2 := [_, _, _, _, _, _, _, _]) dX11_fewestAlone_152 rfl rfl rfl ?_
      refine Ex_goto (t := 84) dX11_fewestAlone_155 rfl ?_
      have qi : fuN qu e (nxs k f w (qu i)) i = qu i := by unfold fuN; rw [if_neg (by omega)]
      have hne : qu i ≠ nxs k f w (qu i) := fun z => by
        have h9 : mt (qu i) = -1 := by rw [z]; exact hm
        omega
      have z := ih (w + 1) (e + 1) _ _ (fuN qu e (nxs k f w (qu i))) h6 (by omega) (by omega) ba (by omega) (by rw [qi]; exact hq) (fun j hj => ?_) (by rw [qi, fu_ne hne]; exact hmu) F6
      · rw [qi] at z
        refine z ?_
        intro e2 mt2 f32 qu2 h2 y1 y2 y3 y4 y5 y6
        exact kont e2 mt2 f32 qu2 h2 y1 y2 y3 y4 y5 (((f8.trans f7).trans f6).trans y6)
      · unfold fu fuN
        by_cases c9 : j = e
        · rw [if_pos c9, if_pos c9]
        · rw [if_neg c9, if_neg c9]; exact hf3 j (by omega)
theorem x11_few_o {E : am_E} {d : Nat} {x a kr fw st0 : Nat} {hi bs k f t s c : Int} (hB : E.2 ≤ x) (A : FA x a kr) (hfw : fw ≤ 1) (hf : 0 ≤ f ∧ f ≤ 9) : ∀ (j i e : Nat) (mt f3 : Nat → Int) (qu : Nat → Nat) (v5 v6 v7 : Value) (h : Hp), i + j = 168 → BI k f fw st0 mt qu e i fw → (∀ j, j < e → f3 j = ((qu j : Nat) : Int)) → FS h x a kr hi bs mt f3 k f t s c → Ex E (d + 4) mX11_fewestAlone 22 [.ref x, .ref a, .int (i32 (fw : Int)), .int (i32 (e : Int)), .int (i32 (i : Int)), v5, v6, v7] [] h (fun r1 h1 => r1 = some (.int (i32 (fewA k f fw st0))) ∧ (∃ mt f3, FS h1 x a kr hi bs mt f3 k f t s c) ∧ FrW h h1 x) := by
  intro j
  induction j with
  | zero =>
    intro i e mt f3 qu v5 v6 v7 h hij b hf3 F
    have ebd := b.1
    obtain rfl : i = e := by omega
    refine Ex_iload dX11_fewestAlone_22 rfl rfl ?_
    refine Ex_iload_n dX11_fewestAlone_24 rfl rfl ?_
    refine Ex_icmp_ge (t := 164) dX11_fewestAlone_25 rfl rfl (by omega) (fun c25 => ?_) (fun c25 => absurd c25 (by omega))
    refine Ex_bipush dX11_fewestAlone_164 rfl (by decide) ?_
    refine Ex_iret dX11_fewestAlone_166 rfl rfl ?_
    exact ⟨ri (BI.stop hf b).symm, ⟨mt, f3, F⟩, FrW.rf _ _⟩
  | succ j ih =>
    intro i e mt f3 qu v5 v6 v7 h hij b hf3 F
    have ebd := b.1
    obtain ⟨a0, a1, a2, a3, a4, a5⟩ := id F
    by_cases hie : i < e
    rotate_left
    · obtain rfl : i = e := by omega
      refine Ex_iload dX11_fewestAlone_22 rfl rfl ?_
      refine Ex_iload_n dX11_fewestAlone_24 rfl rfl ?_
      refine Ex_icmp_ge (t := 164) dX11_fewestAlone_25 rfl rfl (by omega) (fun c25 => ?_) (fun c25 => absurd c25 (by omega))
      refine Ex_bipush dX11_fewestAlone_164 rfl (by decide) ?_
      refine Ex_iret dX11_fewestAlone_166 rfl rfl ?_
      exact ⟨ri (BI.stop hf b).symm, ⟨mt, f3, F⟩, FrW.rf _ _⟩
    · have hb2 := b.2.1 i hie
      by_cases hg : 147 ≤ qu i
      · have eg := BI.goal hf b hie hg
        rw [eg]
        by_cases h6 : mt (qu i) ≤ 60
        · rw [if_pos h6]
          refine Ex_iload dX11_fewestAlone_22 rfl rfl ?_
          refine Ex_iload_n dX11_fewestAlone_24 rfl rfl ?_
          refine Ex_icmp_ge (t := 164) dX11_fewestAlone_25 rfl rfl (by omega) (fun c25 => absurd c25 (by omega)) (fun c25 => ?_)
          refine Ex_iload dX11_fewestAlone_28 rfl rfl ?_
          refine Ex_aload_n dX11_fewestAlone_30 rfl rfl ?_
          refine Ex_getf dX11_fewestAlone_31 rfl a0 rfl rfl rfl ?_
          refine Ex_alen (n := 168) dX11_fewestAlone_34 rfl a2 (by omega) (by rw [fa_len]; rfl) ?_
          refine Ex_icmp_ge (t := 164) dX11_fewestAlone_35 rfl rfl (by omega) (fun c35 => absurd c35 (by omega)) (fun c35 => ?_)
          refine Ex_aload_n dX11_fewestAlone_38 rfl rfl ?_
          refine Ex_getf dX11_fewestAlone_39 rfl a0 rfl rfl rfl ?_
          refine Ex_iload dX11_fewestAlone_42 rfl rfl ?_
          refine Ex_iald dX11_fewestAlone_44 rfl a2 (by omega) (fa_get (show ((i : Nat) : Int).toNat < 168 by omega)) ?_
          rw [show f3 ((i : Nat) : Int).toNat = ((qu i : Nat) : Int) from hf3 i hie]
          refine Ex_istore (L2 := [_, _, _, _, _, _, _, _]) dX11_fewestAlone_45 rfl rfl rfl ?_
          refine Ex_aload_n dX11_fewestAlone_47 rfl rfl ?_
          refine Ex_getf dX11_fewestAlone_48 rfl a0 rfl rfl rfl ?_
          refine Ex_iload dX11_fewestAlone_51 rfl rfl ?_
          refine Ex_iald dX11_fewestAlone_53 rfl a1 (by omega) (fa_get (show (((qu i : Nat) : Int)).toNat < 168 by omega)) ?_
          rw [show mt (((qu i : Nat) : Int)).toNat = mt (qu i) from rfl]
          refine Ex_istore (L2 := [_, _, _, _, _, _, _, _]) dX11_fewestAlone_54 rfl rfl rfl ?_
          refine Ex_iload dX11_fewestAlone_56 rfl rfl ?_
          refine Ex_bipush dX11_fewestAlone_58 rfl (by decide) ?_
          refine Ex_idiv dX11_fewestAlone_60 rfl (by omega) (by omega) ?_
          refine Ex_bipush dX11_fewestAlone_61 rfl (by decide) ?_
          refine Ex_icmp_ne (t := 81) dX11_fewestAlone_63 rfl rfl (by omega) (fun c63 => absurd c63 (by omega)) (fun c63 => ?_)
          refine Ex_iload dX11_fewestAlone_66 rfl rfl ?_
          refine Ex_bipush dX11_fewestAlone_68 rfl (by decide) ?_
          refine Ex_icmp_gt (t := 78) dX11_fewestAlone_70 rfl rfl (by omega) (fun c70 => absurd c70 (by omega)) (fun c70 => ?_)
          refine Ex_iload dX11_fewestAlone_73 rfl rfl ?_
          refine Ex_goto (t := 80) dX11_fewestAlone_75 rfl ?_
          refine Ex_iret dX11_fewestAlone_80 rfl rfl ?_
          exact ⟨rfl, ⟨mt, f3, F⟩, FrW.rf _ _⟩
        · rw [if_neg h6]
          refine Ex_iload dX11_fewestAlone_22 rfl rfl ?_
          refine Ex_iload_n dX11_fewestAlone_24 rfl rfl ?_
          refine Ex_icmp_ge (t := 164) dX11_fewestAlone_25 rfl rfl (by omega) (fun c25 => absurd c25 (by omega)) (fun c25 => ?_)
          refine Ex_iload dX11_fewestAlone_28 rfl rfl ?_
          refine Ex_aload_n dX11_fewestAlone_30 rfl rfl ?_
          refine Ex_getf dX11_fewestAlone_31 rfl a0 rfl rfl rfl ?_
          refine Ex_alen (n := 168) dX11_fewestAlone_34 rfl a2 (by omega) (by rw [fa_len]; rfl) ?_
          refine Ex_icmp_ge (t := 164) dX11_fewestAlone_35 rfl rfl (by omega) (fun c35 => absurd c35 (by omega)) (fun c35 => ?_)
          refine Ex_aload_n dX11_fewestAlone_38 rfl rfl ?_
          refine Ex_getf dX11_fewestAlone_39 rfl a0 rfl rfl rfl ?_
          refine Ex_iload dX11_fewestAlone_42 rfl rfl ?_
          refine Ex_iald dX11_fewestAlone_44 rfl a2 (by omega) (fa_get (show ((i : Nat) : Int).toNat < 168 by omega)) ?_
          rw [show f3 ((i : Nat) : Int).toNat = ((qu i : Nat) : Int) from hf3 i hie]
          refine Ex_istore (L2 := [_, _, _, _, _, _, _, _]) dX11_fewestAlone_45 rfl rfl rfl ?_
          refine Ex_aload_n dX11_fewestAlone_47 rfl rfl ?_
          refine Ex_getf dX11_fewestAlone_48 rfl a0 rfl rfl rfl ?_
          refine Ex_iload dX11_fewestAlone_51 rfl rfl ?_
          refine Ex_iald dX11_fewestAlone_53 rfl a1 (by omega) (fa_get (show (((qu i : Nat) : Int)).toNat < 168 by omega)) ?_
          rw [show mt (((qu i : Nat) : Int)).toNat = mt (qu i) from rfl]
          refine Ex_istore (L2 := [_, _, _, _, _, _, _, _]) dX11_fewestAlone_54 rfl rfl rfl ?_
          refine Ex_iload dX11_fewestAlone_56 rfl rfl ?_
          refine Ex_bipush dX11_fewestAlone_58 rfl (by decide) ?_
          refine Ex_idiv dX11_fewestAlone_60 rfl (by omega) (by omega) ?_
          refine Ex_bipush dX11_fewestAlone_61 rfl (by decide) ?_
          refine Ex_icmp_ne (t := 81) dX11_fewestAlone_63 rfl rfl (by omega) (fun c63 => absurd c63 (by omega)) (fun c63 => ?_)
          refine Ex_iload dX11_fewestAlone_66 rfl rfl ?_
          refine Ex_bipush dX11_fewestAlone_68 rfl (by decide) ?_
          refine Ex_icmp_gt (t := 78) dX11_fewestAlone_70 rfl rfl (by omega) (fun c70 => ?_) (fun c70 => absurd c70 (by omega))
          refine Ex_bipush dX11_fewestAlone_78 rfl (by decide) ?_
          refine Ex_iret dX11_fewestAlone_80 rfl rfl ?_
          exact ⟨rfl, ⟨mt, f3, F⟩, FrW.rf _ _⟩
      · refine Ex_iload dX11_fewestAlone_22 rfl rfl ?_
        refine Ex_iload_n dX11_fewestAlone_24 rfl rfl ?_
        refine Ex_icmp_ge (t := 164) dX11_fewestAlone_25 rfl rfl (by omega) (fun c25 => absurd c25 (by omega)) (fun c25 => ?_)
        refine Ex_iload dX11_fewestAlone_28 rfl rfl ?_
        refine Ex_aload_n dX11_fewestAlone_30 rfl rfl ?_
        refine Ex_getf dX11_fewestAlone_31 rfl a0 rfl rfl rfl ?_
        refine Ex_alen (n := 168) dX11_fewestAlone_34 rfl a2 (by omega) (by rw [fa_len]; rfl) ?_
        refine Ex_icmp_ge (t := 164) dX11_fewestAlone_35 rfl rfl (by omega) (fun c35 => absurd c35 (by omega)) (fun c35 => ?_)
        refine Ex_aload_n dX11_fewestAlone_38 rfl rfl ?_
        refine Ex_getf dX11_fewestAlone_39 rfl a0 rfl rfl rfl ?_
        refine Ex_iload dX11_fewestAlone_42 rfl rfl ?_
        refine Ex_iald dX11_fewestAlone_44 rfl a2 (by omega) (fa_get (show ((i : Nat) : Int).toNat < 168 by omega)) ?_
        rw [show f3 ((i : Nat) : Int).toNat = ((qu i : Nat) : Int) from hf3 i hie]
        refine Ex_istore (L2 := [_, _, _, _, _, _, _, _]) dX11_fewestAlone_45 rfl rfl rfl ?_
        refine Ex_aload_n dX11_fewestAlone_47 rfl rfl ?_
        refine Ex_getf dX11_fewestAlone_48 rfl a0 rfl rfl rfl ?_
        refine Ex_iload dX11_fewestAlone_51 rfl rfl ?_
        refine Ex_iald dX11_fewestAlone_53 rfl a1 (by omega) (fa_get (show (((qu i : Nat) : Int)).toNat < 168 by omega)) ?_
        rw [show mt (((qu i : Nat) : Int)).toNat = mt (qu i) from rfl]
        refine Ex_istore (L2 := [_, _, _, _, _, _, _, _]) dX11_fewestAlone_54 rfl rfl rfl ?_
        refine Ex_iload dX11_fewestAlone_56 rfl rfl ?_
        refine Ex_bipush dX11_fewestAlone_58 rfl (by decide) ?_
        refine Ex_idiv dX11_fewestAlone_60 rfl (by omega) (by omega) ?_
        refine Ex_bipush dX11_fewestAlone_61 rfl (by decide) ?_
        refine Ex_icmp_ne (t := 81) dX11_fewestAlone_63 rfl rfl (by omega) (fun c63 => ?_) (fun c63 => absurd c63 (by omega))
        refine Ex_iload_n dX11_fewestAlone_81 rfl rfl ?_
        refine Ex_istore (L2 := [_, _, _, _, _, _, _, _]) dX11_fewestAlone_82 rfl rfl rfl ?_
        refine x11_few_i hB A hfw hf (3 - fw) fw e mt f3 qu h (by omega) (Nat.le_refl _) b hie (by omega) hf3 rfl F ?_
        intro e2 mt2 f32 qu2 h2 y1 y2 y3 y4 y5 y6
        refine Ex_iinc (L2 := [_, _, _, _, _, _, _, _]) dX11_fewestAlone_158 rfl rfl rfl ?_
        refine Ex_goto (t := 22) dX11_fewestAlone_161 rfl ?_
        refine Ex_post (ih (i + 1) e2 mt2 f32 qu2 _ _ _ h2 (by omega) (BI.next y1 y3 (by rw [y2]; omega)) y4 y5) ?_
        rintro r1 h1 ⟨rfl, z1, z2⟩
        exact ⟨rfl, z1, y6.trans z2⟩
theorem x11_fewest {E : am_E} {d : Nat} {h : Hp} {x a kr fw : Nat} {hi bs k f t s c : Int} {mt f3 : Nat → Int}  (F : FS h x a kr hi bs mt f3 k f t s c) (hB : E.2 ≤ x) (A : FA x a kr) (hfw : fw ≤ 1) (ht : 0 ≤ t ∧ t ≤ 20) (hs : 0 ≤ s ∧ s ≤ 7)  : Ex E (d + 4) mX11_fewestAlone 0 [.ref x, .ref a, .int (i32 (fw : Int)), .retAddr 0, .retAddr 0, .retAddr 0, .retAddr 0, .retAddr 0] [] h (fun r1 h1 => r1 = some (.int (i32 (alo k f fw t s))) ∧ (∃ mt f3, FS h1 x a kr hi bs mt f3 k f t s c) ∧ FrW h h1 x) := by
  obtain ⟨a0, a1, a2, a3, a4, a5⟩ := id F
  have hf := a5.2.2.2
  have A' := A
  obtain ⟨A1, A2⟩ := A'
  obtain ⟨st0, hst⟩ : ∃ st0, st0 = (21 * s + t).toNat := ⟨_, rfl⟩
  have hst2 : s * 21 + t = (st0 : Int) := by omega
  unfold alo
  rw [← hst]
  refine Ex_aload_n dX11_fewestAlone_0 rfl rfl ?_
  refine Ex_getf dX11_fewestAlone_1 rfl a0 rfl rfl rfl ?_
  refine Ex_iconst dX11_fewestAlone_4 rfl ?_
  refine Ex_stat 0 dX11_fewestAlone_5 rfl rfl (Or.inl rfl) rfl rfl rfl rfl rfl rfl (Ex_post (j7_fill a1 (by omega) (by omega)) ?_)
  rintro _ h8 ⟨rfl, b1, f8⟩
  have w8 : FrW h h8 x := ⟨f8.1, fun q q1 q2 q3 => f8.2 q (by omega)⟩
  have F8 : FS h8 x a kr hi bs (fun _ => -1) f3 k f t s c := ⟨(f8.2 _ (by omega)).trans a0, b1, (f8.2 _ (by omega)).trans a2, a3.eq (f8.2 _ (by omega)), (f8.2 _ (by omega)).trans a4, a5.kept (f8.2 _ (by omega)) (f8.2 _ (by omega))⟩
  obtain ⟨g0, g1, g2, g3, g4, g5⟩ := id F8
  refine Ex_aload_n dX11_fewestAlone_8 rfl rfl ?_
  refine Ex_aload_n dX11_fewestAlone_9 rfl rfl ?_
  refine Ex_stat 0 dX11_fewestAlone_10 rfl rfl (Or.inl rfl) rfl rfl rfl rfl rfl rfl (Ex_post (x11_stateOf g4) ?_)
  rintro _ _ ⟨rfl, e0⟩
  obtain rfl := Eq.symm e0
  rw [hst2]
  refine Ex_iconst dX11_fewestAlone_13 rfl ?_
  refine Ex_iconst dX11_fewestAlone_14 rfl ?_
  refine Ex_inv 2 dX11_fewestAlone_15 rfl rfl (Or.inl rfl) rfl rfl rfl rfl g0 rfl rfl rfl (Ex_post (x11_reach_yes (e := 0) g0 g1 g2 (show st0 < 168 by omega) (by omega) rfl hB) ?_)
  rintro _ _ ⟨rfl, rfl⟩
  obtain ⟨h7, hh7⟩ : ∃ h7, h7 = am_put h8 (x + 2) (20, fa 168 (fu (fun _ => -1) st0 0)) := ⟨_, rfl⟩
  rw [← hh7]
  have F7 : FS h7 x a kr hi bs (fu (fun _ => -1) st0 0) f3 k f t s c := by rw [hh7]; exact F8.m A
  have f7 : FrW h8 h7 x := by rw [hh7]; exact FrW.put _ (by omega)
  obtain ⟨h6, hh6⟩ : ∃ h6, h6 = am_put h7 (x + 3) (20, fa 168 (fu f3 0 (st0 : Int))) := ⟨_, rfl⟩
  rw [← hh6]
  have F6 : FS h6 x a kr hi bs (fu (fun _ => -1) st0 0) (fu f3 0 (st0 : Int)) k f t s c := by rw [hh6]; exact F7.q A
  have f6 : FrW h7 h6 x := by rw [hh6]; exact FrW.put _ (by omega)
  rw [show ((0 : Nat) : Int) + 1 = ((1 : Nat) : Int) from rfl]
  refine Ex_istore_n (L2 := [_, _, _, _, _, _, _, _]) dX11_fewestAlone_18 rfl rfl rfl ?_
  refine Ex_iconst dX11_fewestAlone_19 rfl ?_
  refine Ex_istore (L2 := [_, _, _, _, _, _, _, _]) dX11_fewestAlone_20 rfl rfl rfl ?_
  refine Ex_post (x11_few_o hB A hfw hf 168 0 1 _ _ (fun _ => st0) _ _ _ h6 (by omega) (BI.ini (by omega) (fun _ => st0) rfl) (fun j hj => ?_) F6) ?_
  · rw [show j = 0 by omega]; exact fu_at _ _ _
  · rintro r1 h1 ⟨rfl, z1, z2⟩
    exact ⟨rfl, z1, ((w8.trans f7).trans f6).trans z2⟩
