/-! alone, neverHeld, costs (by program: wip/whole/spec_y.py) -/
theorem Scr.few {h h1 : Hp} {x a kr : Nat} {hi bs k f t s c : Int} {mt f3 : Nat → Int} (Z : Scr h x hi) (w : FrW h h1 x) (F : FS h1 x a kr hi bs mt f3 k f t s c) : Scr h1 x hi := by
  obtain ⟨⟨bs0, z0⟩, z1, ⟨g2, z2⟩, ⟨g3, z3⟩, ⟨g4, z4⟩, ⟨g5, z5⟩, r0, r1, r2, p, q⟩ := Z
  obtain ⟨a0, a1, a2, a3, -⟩ := F
  exact ⟨⟨_, a0⟩, (w.2 _ (by omega) (by omega) (by omega)).trans z1, ⟨_, a1⟩, ⟨_, a2⟩, ⟨g4, (w.2 _ (by omega) (by omega) (by omega)).trans z4⟩, ⟨g5, (w.2 _ (by omega) (by omega) (by omega)).trans z5⟩, r0.eq (fun q _ _ => w.2 q (by omega) (by omega) (by omega)), r1.eq (fun q _ _ => w.2 q (by omega) (by omega) (by omega)), r2.eq (fun q _ _ => w.2 q (by omega) (by omega) (by omega)), a3, q.eq (w.2 _ (by omega) (by omega) (by omega))⟩
theorem x11_fewQ {E : am_E} {d : Nat} {h : Hp} {x a kr fw : Nat} {hi k f t s c : Int} (Z : Scr h x hi) (hp : h.1 a = some (pcell kr t s c)) (kc : KindAt h kr k f) (hB : E.2 ≤ x) (A : FA x a kr) (hfw : fw ≤ 1) (ht : 0 ≤ t ∧ t ≤ 20) (hs : 0 ≤ s ∧ s ≤ 7) : Ex E (d + 4) mX11_fewestAlone 0 [.ref x, .ref a, .int (i32 (fw : Int)), .retAddr 0, .retAddr 0, .retAddr 0, .retAddr 0, .retAddr 0] [] h (fun r1 h1 => Qs h h1 x hi (alo k f fw t s) r1) := by
  obtain ⟨⟨bs0, z0⟩, z1, ⟨g2, z2⟩, ⟨g3, z3⟩, -, -, -, -, -, p, q⟩ := id Z
  refine Ex_post (x11_fewest (mt := g2) (f3 := g3) (bs := bs0) ⟨z0, z2, z3, p, hp, kc⟩ hB A hfw ht hs) ?_
  rintro r1 h1 ⟨rfl, ⟨mt, f3, F⟩, w⟩
  exact ⟨rfl, Z.few w F, w.frS⟩
theorem alo_r {k f : Int} {fw : Nat} {t s : Int} : -4 ≤ alo k f fw t s ∧ alo k f fw t s ≤ 60 := fewA_r
def fwJ (k f t s few w : Int) : Nat → Int
  | 0 => -4
  | j + 1 => if alo k f 0 (sp_mt k f w t s) (sp_ms k f w t s) = few - 1 then w else fwJ k f t s few (w + 1) j
def an_alone (n : Nat) (K F T S : Nat → Int) (c w : Int) : Int :=
  if (0 ≤ c ∧ c < (n : Int)) ∧ (0 ≤ w ∧ w ≤ 1) then
    (if w = 0 then alo (K c.toNat) (F c.toNat) 0 (T c.toNat) (S c.toNat) else if alo (K c.toNat) (F c.toNat) 0 (T c.toNat) (S c.toNat) ≤ 0 then -4 else fwJ (K c.toNat) (F c.toNat) (T c.toNat) (S c.toNat) (alo (K c.toNat) (F c.toNat) 0 (T c.toNat) (S c.toNat)) 0 3)
  else -1
def an_never (n : Nat) (K F T S : Nat → Int) (c : Int) : Int := if 0 ≤ c ∧ c < (n : Int) then alo (K c.toNat) (F c.toNat) 1 (T c.toNat) (S c.toNat) else -1
def cst (k f t s : Int) : Int := if alo k f 0 t s = -4 then -4 else (if alo k f 0 (sp_cl (t - sp_fright k f)) s = -4 then 60 else alo k f 0 (sp_cl (t - sp_fright k f)) s) - alo k f 0 t s
def an_costs (n : Nat) (K F T S : Nat → Int) (c : Int) : Int := if 0 ≤ c ∧ c < (n : Int) then cst (K c.toNat) (F c.toNat) (T c.toNat) (S c.toNat) else -1
theorem alo_7 {k f : Int} {fw : Nat} {t : Int} (ht : 0 ≤ t) : alo k f fw t 7 = 0 := by
  unfold alo
  have := fewA_is (k := k) (f := f) (fw := fw) (q := (21 * 7 + t).toNat) (d := 0) (fun n hn => absurd hn (by omega)) (by simp only [Wb]; exact decide_eq_true (by omega))
  rw [this]
  rfl
theorem x11_fway_l {E : am_E} {d : Nat} {x y n c : Nat} {hi m tu few : Int} {kr : Nat → Nat} {K F T S C : Nat → Int}  (hB : E.2 ≤ x) (hy : x + 57 ≤ y) (hc : c < n) (hg : Rng n T S C) (hs7 : S c < 7) (hfe : 0 < few ∧ few ≤ 60)  : ∀ (k : Nat) (w : Int) (h : Hp), w + k = 3 → 0 ≤ w → Scr h x hi → RailAt h (x + 10) n m tu kr T S C → KY h y n kr K F → Ex E (d + 6) mX11_firstWayAlone 2 [.ref x, .ref (x + 10 + 2 + c), .int (i32 few), .int (i32 w)] [] h (fun r1 h1 => Qs h h1 x hi (fwJ (K c) (F c) (T c) (S c) few w k) r1) := by
  intro k
  induction k with
  | zero =>
    intro w h hk hw0 Z R ky
    refine Ex_iload_n dX11_firstWayAlone_2 rfl rfl ?_
    refine Ex_iconst dX11_firstWayAlone_3 rfl ?_
    refine Ex_icmp_gt (t := 51) dX11_firstWayAlone_4 rfl rfl (by omega) (fun c4 => ?_) (fun c4 => absurd c4 (by omega))
    refine Ex_bipush dX11_firstWayAlone_51 rfl (by decide) ?_
    refine Ex_iret dX11_firstWayAlone_53 rfl rfl ?_
    exact Qs.same Z rfl
  | succ k ih =>
    intro w h hk hw0 Z R ky
    obtain ⟨⟨bs, z0⟩, z1, ⟨f2, z2⟩, ⟨f3, z3⟩, ⟨f4, z4⟩, ⟨f5, z5⟩, zr0, zr1, zr2, ⟨k5, t5, s5, c5, z55⟩, ⟨k6, t6, s6, c6, z56⟩⟩ := id Z
    obtain ⟨hr, hA, hP, hG, hn6⟩ := id R
    have kk := ky.ok (r := x + 10) (by omega)
    have hgc := hg c hc
    have kc := (kk c hc).1
    have hya := (ky c hc).2
    have eb : fwJ (K c) (F c) (T c) (S c) few w (k + 1) = if alo (K c) (F c) 0 (sp_mt (K c) (F c) w (T c) (S c)) (sp_ms (K c) (F c) w (T c) (S c)) = few - 1 then w else fwJ (K c) (F c) (T c) (S c) few (w + 1) k := rfl
    rw [eb]
    by_cases q : alo (K c) (F c) 0 (sp_mt (K c) (F c) w (T c) (S c)) (sp_ms (K c) (F c) w (T c) (S c)) = few - 1
    · rw [if_pos q]
      refine Ex_iload_n dX11_firstWayAlone_2 rfl rfl ?_
      refine Ex_iconst dX11_firstWayAlone_3 rfl ?_
      refine Ex_icmp_gt (t := 51) dX11_firstWayAlone_4 rfl rfl (by omega) (fun c4 => absurd c4 (by omega)) (fun c4 => ?_)
      refine Ex_iload_n dX11_firstWayAlone_7 rfl rfl ?_
      refine Ex_if_le (t := 51) dX11_firstWayAlone_8 rfl rfl (by omega) (fun c8 => absurd c8 (by omega)) (fun c8 => ?_)
      refine Ex_aload_n dX11_firstWayAlone_11 rfl rfl ?_
      refine Ex_getf dX11_firstWayAlone_12 rfl z0 rfl rfl rfl ?_
      refine Ex_aload_n dX11_firstWayAlone_15 rfl rfl ?_
      refine Ex_inv 2 dX11_firstWayAlone_16 rfl rfl (Or.inl rfl) rfl rfl rfl rfl z56 rfl rfl rfl (Ex_post (x5_setTo (a := x + 56) (b := x + 10 + 2 + c) z56 (hP c hc) (by omega) (by omega)) ?_)
      rintro _ _ ⟨rfl, rfl⟩
      refine Ex_aload_n dX11_firstWayAlone_19 rfl rfl ?_
      refine Ex_getf dX11_firstWayAlone_20 rfl ((am_pg2 (by omega)).trans z0) rfl rfl rfl ?_
      refine Ex_iload_n dX11_firstWayAlone_23 rfl rfl ?_
      refine Ex_inv 2 dX11_firstWayAlone_24 rfl rfl (Or.inl rfl) rfl rfl rfl rfl (am_pg1 _ _ _) rfl rfl rfl (Ex_post (x5_meets (am_pg1 _ _ _) (by omega) hgc.1 ⟨hgc.2.1.1, hs7⟩ (kc.kept (am_pg2 (by omega)) (am_pg2 (by omega))) (by omega) (by omega)) ?_)
      rintro _ _ ⟨rfl, rfl⟩
      rw [am_put2]
      obtain ⟨h8, hh8⟩ : ∃ h8, h8 = am_put h (x + 56) (pcell (kr c) (sp_mt (K c) (F c) w (T c) (S c)) (sp_ms (K c) (F c) w (T c) (S c)) (C c)) := ⟨_, rfl⟩
      rw [← hh8]
      have f8 : FrS h h8 x := by rw [hh8]; exact (Fr.put (lo := x + 56) (hi := x + 57) _ (by omega)).frS (fun q _ _ => by omega)
      have c8 : h8.1 (x + 56) = some (pcell (kr c) (sp_mt (K c) (F c) w (T c) (S c)) (sp_ms (K c) (F c) w (T c) (S c)) (C c)) := by rw [hh8]; exact am_pg1 _ _ _
      have Z8 : Scr h8 x hi := by
        have e8 : ∀ q, q ≠ x + 56 → h8.1 q = h.1 q := fun q hq => by rw [hh8]; exact am_pg2 hq
        exact ⟨⟨bs, (e8 _ (by omega)).trans z0⟩, (e8 _ (by omega)).trans z1, ⟨f2, (e8 _ (by omega)).trans z2⟩, ⟨f3, (e8 _ (by omega)).trans z3⟩, ⟨f4, (e8 _ (by omega)).trans z4⟩, ⟨f5, (e8 _ (by omega)).trans z5⟩, zr0.eq (fun q _ _ => e8 q (by omega)), zr1.eq (fun q _ _ => e8 q (by omega)), zr2.eq (fun q _ _ => e8 q (by omega)), PupAny.eq ⟨k5, t5, s5, c5, z55⟩ (e8 _ (by omega)), ⟨_, _, _, _, c8⟩⟩
      have ky8 := ky.frS f8 hy
      have R8 := R.frS f8
      obtain ⟨⟨bs8, z08⟩, -⟩ := id Z8
      refine Ex_pop dX11_firstWayAlone_27 rfl rfl ?_
      refine Ex_aload_n dX11_firstWayAlone_28 rfl rfl ?_
      refine Ex_aload_n dX11_firstWayAlone_29 rfl rfl ?_
      refine Ex_getf dX11_firstWayAlone_30 rfl z08 rfl rfl rfl ?_
      refine Ex_iconst dX11_firstWayAlone_33 rfl ?_
      refine Ex_inv 2 dX11_firstWayAlone_34 rfl rfl (Or.inl rfl) rfl rfl rfl rfl z08 rfl rfl rfl (Ex_post (x11_fewQ (fw := 0) Z8 c8 (ky8 c hc).1 hB ⟨by omega, by omega⟩ (by omega) (sp_mt_r kc.2.2.2 hgc.1) (sp_ms_r ⟨hgc.2.1.1, hs7⟩)) ?_)
      rintro _ h9 ⟨rfl, Z9, f9⟩
      have R9 := R8.frS f9
      have ky9 := ky8.frS f9 hy
      have hal := alo_r (k := K c) (f := F c) (fw := 0) (t := (sp_mt (K c) (F c) w (T c) (S c))) (s := (sp_ms (K c) (F c) w (T c) (S c)))
      refine Ex_iload_n dX11_firstWayAlone_37 rfl rfl ?_
      refine Ex_iconst dX11_firstWayAlone_38 rfl ?_
      refine Ex_isub dX11_firstWayAlone_39 rfl ?_
      refine Ex_icmp_ne (t := 45) dX11_firstWayAlone_40 rfl rfl (by omega) (fun c40 => absurd c40 (by omega)) (fun c40 => ?_)
      refine Ex_iload_n dX11_firstWayAlone_43 rfl rfl ?_
      refine Ex_iret dX11_firstWayAlone_44 rfl rfl ?_
      exact Qs.fr Z9 (f8.trans f9) rfl
    · rw [if_neg q]
      refine Ex_iload_n dX11_firstWayAlone_2 rfl rfl ?_
      refine Ex_iconst dX11_firstWayAlone_3 rfl ?_
      refine Ex_icmp_gt (t := 51) dX11_firstWayAlone_4 rfl rfl (by omega) (fun c4 => absurd c4 (by omega)) (fun c4 => ?_)
      refine Ex_iload_n dX11_firstWayAlone_7 rfl rfl ?_
      refine Ex_if_le (t := 51) dX11_firstWayAlone_8 rfl rfl (by omega) (fun c8 => absurd c8 (by omega)) (fun c8 => ?_)
      refine Ex_aload_n dX11_firstWayAlone_11 rfl rfl ?_
      refine Ex_getf dX11_firstWayAlone_12 rfl z0 rfl rfl rfl ?_
      refine Ex_aload_n dX11_firstWayAlone_15 rfl rfl ?_
      refine Ex_inv 2 dX11_firstWayAlone_16 rfl rfl (Or.inl rfl) rfl rfl rfl rfl z56 rfl rfl rfl (Ex_post (x5_setTo (a := x + 56) (b := x + 10 + 2 + c) z56 (hP c hc) (by omega) (by omega)) ?_)
      rintro _ _ ⟨rfl, rfl⟩
      refine Ex_aload_n dX11_firstWayAlone_19 rfl rfl ?_
      refine Ex_getf dX11_firstWayAlone_20 rfl ((am_pg2 (by omega)).trans z0) rfl rfl rfl ?_
      refine Ex_iload_n dX11_firstWayAlone_23 rfl rfl ?_
      refine Ex_inv 2 dX11_firstWayAlone_24 rfl rfl (Or.inl rfl) rfl rfl rfl rfl (am_pg1 _ _ _) rfl rfl rfl (Ex_post (x5_meets (am_pg1 _ _ _) (by omega) hgc.1 ⟨hgc.2.1.1, hs7⟩ (kc.kept (am_pg2 (by omega)) (am_pg2 (by omega))) (by omega) (by omega)) ?_)
      rintro _ _ ⟨rfl, rfl⟩
      rw [am_put2]
      obtain ⟨h8, hh8⟩ : ∃ h8, h8 = am_put h (x + 56) (pcell (kr c) (sp_mt (K c) (F c) w (T c) (S c)) (sp_ms (K c) (F c) w (T c) (S c)) (C c)) := ⟨_, rfl⟩
      rw [← hh8]
      have f8 : FrS h h8 x := by rw [hh8]; exact (Fr.put (lo := x + 56) (hi := x + 57) _ (by omega)).frS (fun q _ _ => by omega)
      have c8 : h8.1 (x + 56) = some (pcell (kr c) (sp_mt (K c) (F c) w (T c) (S c)) (sp_ms (K c) (F c) w (T c) (S c)) (C c)) := by rw [hh8]; exact am_pg1 _ _ _
      have Z8 : Scr h8 x hi := by
        have e8 : ∀ q, q ≠ x + 56 → h8.1 q = h.1 q := fun q hq => by rw [hh8]; exact am_pg2 hq
        exact ⟨⟨bs, (e8 _ (by omega)).trans z0⟩, (e8 _ (by omega)).trans z1, ⟨f2, (e8 _ (by omega)).trans z2⟩, ⟨f3, (e8 _ (by omega)).trans z3⟩, ⟨f4, (e8 _ (by omega)).trans z4⟩, ⟨f5, (e8 _ (by omega)).trans z5⟩, zr0.eq (fun q _ _ => e8 q (by omega)), zr1.eq (fun q _ _ => e8 q (by omega)), zr2.eq (fun q _ _ => e8 q (by omega)), PupAny.eq ⟨k5, t5, s5, c5, z55⟩ (e8 _ (by omega)), ⟨_, _, _, _, c8⟩⟩
      have ky8 := ky.frS f8 hy
      have R8 := R.frS f8
      obtain ⟨⟨bs8, z08⟩, -⟩ := id Z8
      refine Ex_pop dX11_firstWayAlone_27 rfl rfl ?_
      refine Ex_aload_n dX11_firstWayAlone_28 rfl rfl ?_
      refine Ex_aload_n dX11_firstWayAlone_29 rfl rfl ?_
      refine Ex_getf dX11_firstWayAlone_30 rfl z08 rfl rfl rfl ?_
      refine Ex_iconst dX11_firstWayAlone_33 rfl ?_
      refine Ex_inv 2 dX11_firstWayAlone_34 rfl rfl (Or.inl rfl) rfl rfl rfl rfl z08 rfl rfl rfl (Ex_post (x11_fewQ (fw := 0) Z8 c8 (ky8 c hc).1 hB ⟨by omega, by omega⟩ (by omega) (sp_mt_r kc.2.2.2 hgc.1) (sp_ms_r ⟨hgc.2.1.1, hs7⟩)) ?_)
      rintro _ h9 ⟨rfl, Z9, f9⟩
      have R9 := R8.frS f9
      have ky9 := ky8.frS f9 hy
      have hal := alo_r (k := K c) (f := F c) (fw := 0) (t := (sp_mt (K c) (F c) w (T c) (S c))) (s := (sp_ms (K c) (F c) w (T c) (S c)))
      refine Ex_iload_n dX11_firstWayAlone_37 rfl rfl ?_
      refine Ex_iconst dX11_firstWayAlone_38 rfl ?_
      refine Ex_isub dX11_firstWayAlone_39 rfl ?_
      refine Ex_icmp_ne (t := 45) dX11_firstWayAlone_40 rfl rfl (by omega) (fun c40 => ?_) (fun c40 => absurd c40 (by omega))
      refine Ex_iinc (L2 := [_, _, _, _]) dX11_firstWayAlone_45 rfl rfl rfl ?_
      refine Ex_goto (t := 2) dX11_firstWayAlone_48 rfl ?_
      refine Ex_post (ih (w + 1) h9 (by omega) (by omega) Z9 R9 ky9) ?_
      intro r1 h1 z
      exact Qs.trans (f8.trans f9) z
theorem x11_alone {E : am_E} {d : Nat} {h : Hp} {x y n : Nat} {hi m tu : Int} {kr : Nat → Nat} {K F T S C : Nat → Int} {c w : Int}  (Z : Scr h x hi) (R : RailAt h (x + 10) n m tu kr T S C) (hg : Rng n T S C) (ky : KY h y n kr K F) (hB : E.2 ≤ x) (hy : x + 57 ≤ y) (hc : (-2147483648 ≤ c ∧ c ≤ 2147483647)) (hw : (-2147483648 ≤ w ∧ w ≤ 2147483647))  : Ex E (d + 8) mX11_alone 0 [.ref x, .int (i32 c), .int (i32 w), .retAddr 0] [] h (fun r1 h1 => Qs h h1 x hi (an_alone n K F T S c w) r1) := by
  obtain ⟨⟨bs, z0⟩, z1, ⟨f2, z2⟩, ⟨f3, z3⟩, ⟨f4, z4⟩, ⟨f5, z5⟩, zr0, zr1, zr2, ⟨k5, t5, s5, c5, z55⟩, ⟨k6, t6, s6, c6, z56⟩⟩ := id Z
  obtain ⟨hr, hA, hP, hG, hn6⟩ := id R
  have kk := ky.ok (r := x + 10) (by omega)
  by_cases q : (0 ≤ c ∧ c < (n : Int)) ∧ (0 ≤ w ∧ w ≤ 1)
  · obtain ⟨c, rfl⟩ := Int.eq_ofNat_of_zero_le (show 0 ≤ c by omega)
    have hcn : c < n := by omega
    have hgc := hg c hcn
    have kc := (kk c hcn).1
    have hya := (ky c hcn).2
    have hal := alo_r (k := K c) (f := F c) (fw := 0) (t := T c) (s := S c)
    by_cases hw0 : w = 0
    · have ea : an_alone n K F T S (c : Int) w = alo (K c) (F c) 0 (T c) (S c) := by unfold an_alone; rw [if_pos q]; exact if_pos hw0
      rw [ea]
      refine Ex_aload_n dX11_alone_0 rfl rfl ?_
      refine Ex_getf dX11_alone_1 rfl (by first | exact z0 | exact hr) rfl rfl rfl ?_
      refine Ex_iload_n dX11_alone_4 rfl rfl ?_
      refine Ex_inv 2 dX11_alone_5 rfl rfl (Or.inl rfl) rfl rfl rfl rfl hr rfl rfl rfl (Ex_post (x7_has R (by omega)) ?_)
      rintro _ _ ⟨rfl, e0⟩
      obtain rfl := Eq.symm e0
      refine Ex_if_eq (t := 20) dX11_alone_8 rfl rfl (by omega) (fun c8 => absurd c8 (by omega)) (fun c8 => ?_)
      refine Ex_iload_n dX11_alone_11 rfl rfl ?_
      refine Ex_iconst dX11_alone_12 rfl ?_
      refine Ex_iconst dX11_alone_13 rfl ?_
      refine Ex_stat 0 dX11_alone_14 rfl rfl (Or.inl rfl) rfl rfl rfl rfl rfl rfl (Ex_post (x11_within (by omega)) ?_)
      rintro _ _ ⟨rfl, e0⟩
      obtain rfl := Eq.symm e0
      refine Ex_if_ne (t := 22) dX11_alone_17 rfl rfl (by omega) (fun c17 => ?_) (fun c17 => absurd c17 (by omega))
      refine Ex_aload_n dX11_alone_22 rfl rfl ?_
      refine Ex_aload_n dX11_alone_23 rfl rfl ?_
      refine Ex_getf dX11_alone_24 rfl z0 rfl rfl rfl ?_
      refine Ex_getf dX11_alone_27 rfl hr rfl rfl rfl ?_
      refine Ex_iload_n dX11_alone_30 rfl rfl ?_
      refine Ex_aald dX11_alone_31 rfl hA (by omega) (by omega) (rarr_get (by omega)) ?_
      refine Ex_iconst dX11_alone_32 rfl ?_
      refine Ex_inv 2 dX11_alone_33 rfl rfl (Or.inl rfl) rfl rfl rfl rfl z0 rfl rfl rfl (Ex_post (Ex_d (x11_fewQ (d := 0) (fw := 0) Z (hP c hcn) kc hB ⟨by omega, by omega⟩ (by omega) hgc.1 hgc.2.1) (by omega)) ?_)
      rintro _ h9 ⟨rfl, Z9, f9⟩
      have R9 := R.frS f9
      have ky9 := ky.frS f9 hy
      obtain ⟨hr9, hA9, -⟩ := id R9
      obtain ⟨⟨bs9, z09⟩, -⟩ := id Z9
      refine Ex_istore_n (L2 := [_, _, _, _]) dX11_alone_36 rfl rfl rfl ?_
      refine Ex_iload_n dX11_alone_37 rfl rfl ?_
      refine Ex_if_ne (t := 45) dX11_alone_38 rfl rfl (by omega) (fun c38 => absurd c38 (by omega)) (fun c38 => ?_)
      refine Ex_iload_n dX11_alone_41 rfl rfl ?_
      refine Ex_goto (t := 59) dX11_alone_42 rfl ?_
      refine Ex_iret dX11_alone_59 rfl rfl ?_
      exact Qs.fr Z9 f9 rfl
    · by_cases hfe : alo (K c) (F c) 0 (T c) (S c) ≤ 0
      · have ea : an_alone n K F T S (c : Int) w = -4 := by unfold an_alone; rw [if_pos q, if_neg hw0]; exact if_pos hfe
        rw [ea]
        refine Ex_aload_n dX11_alone_0 rfl rfl ?_
        refine Ex_getf dX11_alone_1 rfl (by first | exact z0 | exact hr) rfl rfl rfl ?_
        refine Ex_iload_n dX11_alone_4 rfl rfl ?_
        refine Ex_inv 2 dX11_alone_5 rfl rfl (Or.inl rfl) rfl rfl rfl rfl hr rfl rfl rfl (Ex_post (x7_has R (by omega)) ?_)
        rintro _ _ ⟨rfl, e0⟩
        obtain rfl := Eq.symm e0
        refine Ex_if_eq (t := 20) dX11_alone_8 rfl rfl (by omega) (fun c8 => absurd c8 (by omega)) (fun c8 => ?_)
        refine Ex_iload_n dX11_alone_11 rfl rfl ?_
        refine Ex_iconst dX11_alone_12 rfl ?_
        refine Ex_iconst dX11_alone_13 rfl ?_
        refine Ex_stat 0 dX11_alone_14 rfl rfl (Or.inl rfl) rfl rfl rfl rfl rfl rfl (Ex_post (x11_within (by omega)) ?_)
        rintro _ _ ⟨rfl, e0⟩
        obtain rfl := Eq.symm e0
        refine Ex_if_ne (t := 22) dX11_alone_17 rfl rfl (by omega) (fun c17 => ?_) (fun c17 => absurd c17 (by omega))
        refine Ex_aload_n dX11_alone_22 rfl rfl ?_
        refine Ex_aload_n dX11_alone_23 rfl rfl ?_
        refine Ex_getf dX11_alone_24 rfl z0 rfl rfl rfl ?_
        refine Ex_getf dX11_alone_27 rfl hr rfl rfl rfl ?_
        refine Ex_iload_n dX11_alone_30 rfl rfl ?_
        refine Ex_aald dX11_alone_31 rfl hA (by omega) (by omega) (rarr_get (by omega)) ?_
        refine Ex_iconst dX11_alone_32 rfl ?_
        refine Ex_inv 2 dX11_alone_33 rfl rfl (Or.inl rfl) rfl rfl rfl rfl z0 rfl rfl rfl (Ex_post (Ex_d (x11_fewQ (d := 0) (fw := 0) Z (hP c hcn) kc hB ⟨by omega, by omega⟩ (by omega) hgc.1 hgc.2.1) (by omega)) ?_)
        rintro _ h9 ⟨rfl, Z9, f9⟩
        have R9 := R.frS f9
        have ky9 := ky.frS f9 hy
        obtain ⟨hr9, hA9, -⟩ := id R9
        obtain ⟨⟨bs9, z09⟩, -⟩ := id Z9
        refine Ex_istore_n (L2 := [_, _, _, _]) dX11_alone_36 rfl rfl rfl ?_
        refine Ex_iload_n dX11_alone_37 rfl rfl ?_
        refine Ex_if_ne (t := 45) dX11_alone_38 rfl rfl (by omega) (fun c38 => ?_) (fun c38 => absurd c38 (by omega))
        refine Ex_aload_n dX11_alone_45 rfl rfl ?_
        refine Ex_aload_n dX11_alone_46 rfl rfl ?_
        refine Ex_getf dX11_alone_47 rfl z09 rfl rfl rfl ?_
        refine Ex_getf dX11_alone_50 rfl hr9 rfl rfl rfl ?_
        refine Ex_iload_n dX11_alone_53 rfl rfl ?_
        refine Ex_aald dX11_alone_54 rfl hA9 (by omega) (by omega) (rarr_get (by omega)) ?_
        refine Ex_iload_n dX11_alone_55 rfl rfl ?_
        refine Ex_inv 2 dX11_alone_56 rfl rfl (Or.inl rfl) rfl rfl rfl rfl z09 rfl rfl rfl (Ex_post (P := fun r1 h1 => Qs h9 h1 x hi (-4) r1) ?_ ?_)
        rotate_left
        · rintro r1 h1 ⟨rfl, y2, y3⟩
          refine Ex_iret dX11_alone_59 rfl rfl ?_
          exact ⟨rfl, y2, f9.trans y3⟩
        refine Ex_iconst dX11_firstWayAlone_0 rfl ?_
        refine Ex_istore_n (L2 := [_, _, _, _]) dX11_firstWayAlone_1 rfl rfl rfl ?_
        refine Ex_iload_n dX11_firstWayAlone_2 rfl rfl ?_
        refine Ex_iconst dX11_firstWayAlone_3 rfl ?_
        refine Ex_icmp_gt (t := 51) dX11_firstWayAlone_4 rfl rfl (by omega) (fun c4 => absurd c4 (by omega)) (fun c4 => ?_)
        refine Ex_iload_n dX11_firstWayAlone_7 rfl rfl ?_
        refine Ex_if_le (t := 51) dX11_firstWayAlone_8 rfl rfl (by omega) (fun c8 => ?_) (fun c8 => absurd c8 (by omega))
        refine Ex_bipush dX11_firstWayAlone_51 rfl (by decide) ?_
        refine Ex_iret dX11_firstWayAlone_53 rfl rfl ?_
        exact Qs.same Z9 rfl
      · have hs7 : S c < 7 := by
          by_cases e : S c = 7
          · rw [e, alo_7 hgc.1.1] at hfe; omega
          · omega
        have ea : an_alone n K F T S (c : Int) w = fwJ (K c) (F c) (T c) (S c) (alo (K c) (F c) 0 (T c) (S c)) 0 3 := by unfold an_alone; rw [if_pos q, if_neg hw0]; exact if_neg hfe
        rw [ea]
        refine Ex_aload_n dX11_alone_0 rfl rfl ?_
        refine Ex_getf dX11_alone_1 rfl (by first | exact z0 | exact hr) rfl rfl rfl ?_
        refine Ex_iload_n dX11_alone_4 rfl rfl ?_
        refine Ex_inv 2 dX11_alone_5 rfl rfl (Or.inl rfl) rfl rfl rfl rfl hr rfl rfl rfl (Ex_post (x7_has R (by omega)) ?_)
        rintro _ _ ⟨rfl, e0⟩
        obtain rfl := Eq.symm e0
        refine Ex_if_eq (t := 20) dX11_alone_8 rfl rfl (by omega) (fun c8 => absurd c8 (by omega)) (fun c8 => ?_)
        refine Ex_iload_n dX11_alone_11 rfl rfl ?_
        refine Ex_iconst dX11_alone_12 rfl ?_
        refine Ex_iconst dX11_alone_13 rfl ?_
        refine Ex_stat 0 dX11_alone_14 rfl rfl (Or.inl rfl) rfl rfl rfl rfl rfl rfl (Ex_post (x11_within (by omega)) ?_)
        rintro _ _ ⟨rfl, e0⟩
        obtain rfl := Eq.symm e0
        refine Ex_if_ne (t := 22) dX11_alone_17 rfl rfl (by omega) (fun c17 => ?_) (fun c17 => absurd c17 (by omega))
        refine Ex_aload_n dX11_alone_22 rfl rfl ?_
        refine Ex_aload_n dX11_alone_23 rfl rfl ?_
        refine Ex_getf dX11_alone_24 rfl z0 rfl rfl rfl ?_
        refine Ex_getf dX11_alone_27 rfl hr rfl rfl rfl ?_
        refine Ex_iload_n dX11_alone_30 rfl rfl ?_
        refine Ex_aald dX11_alone_31 rfl hA (by omega) (by omega) (rarr_get (by omega)) ?_
        refine Ex_iconst dX11_alone_32 rfl ?_
        refine Ex_inv 2 dX11_alone_33 rfl rfl (Or.inl rfl) rfl rfl rfl rfl z0 rfl rfl rfl (Ex_post (Ex_d (x11_fewQ (d := 0) (fw := 0) Z (hP c hcn) kc hB ⟨by omega, by omega⟩ (by omega) hgc.1 hgc.2.1) (by omega)) ?_)
        rintro _ h9 ⟨rfl, Z9, f9⟩
        have R9 := R.frS f9
        have ky9 := ky.frS f9 hy
        obtain ⟨hr9, hA9, -⟩ := id R9
        obtain ⟨⟨bs9, z09⟩, -⟩ := id Z9
        refine Ex_istore_n (L2 := [_, _, _, _]) dX11_alone_36 rfl rfl rfl ?_
        refine Ex_iload_n dX11_alone_37 rfl rfl ?_
        refine Ex_if_ne (t := 45) dX11_alone_38 rfl rfl (by omega) (fun c38 => ?_) (fun c38 => absurd c38 (by omega))
        refine Ex_aload_n dX11_alone_45 rfl rfl ?_
        refine Ex_aload_n dX11_alone_46 rfl rfl ?_
        refine Ex_getf dX11_alone_47 rfl z09 rfl rfl rfl ?_
        refine Ex_getf dX11_alone_50 rfl hr9 rfl rfl rfl ?_
        refine Ex_iload_n dX11_alone_53 rfl rfl ?_
        refine Ex_aald dX11_alone_54 rfl hA9 (by omega) (by omega) (rarr_get (by omega)) ?_
        refine Ex_iload_n dX11_alone_55 rfl rfl ?_
        refine Ex_inv 2 dX11_alone_56 rfl rfl (Or.inl rfl) rfl rfl rfl rfl z09 rfl rfl rfl (Ex_post (P := fun r1 h1 => Qs h9 h1 x hi (fwJ (K c) (F c) (T c) (S c) (alo (K c) (F c) 0 (T c) (S c)) 0 3) r1) ?_ ?_)
        rotate_left
        · rintro r1 h1 ⟨rfl, y2, y3⟩
          refine Ex_iret dX11_alone_59 rfl rfl ?_
          exact ⟨rfl, y2, f9.trans y3⟩
        refine Ex_iconst dX11_firstWayAlone_0 rfl ?_
        refine Ex_istore_n (L2 := [_, _, _, _]) dX11_firstWayAlone_1 rfl rfl rfl ?_
        exact Ex_d (x11_fway_l (d := 0) hB hy hcn hg hs7 (by omega) 3 0 h9 (by omega) (by omega) Z9 R9 ky9) (by omega)
  · refine Ex_aload_n dX11_alone_0 rfl rfl ?_
    refine Ex_getf dX11_alone_1 rfl (by first | exact z0 | exact hr) rfl rfl rfl ?_
    refine Ex_iload_n dX11_alone_4 rfl rfl ?_
    refine Ex_inv 2 dX11_alone_5 rfl rfl (Or.inl rfl) rfl rfl rfl rfl hr rfl rfl rfl (Ex_post (x7_has R (by omega)) ?_)
    rintro _ _ ⟨rfl, e0⟩
    obtain rfl := Eq.symm e0
    refine Ex_if_eq (t := 20) dX11_alone_8 rfl rfl (by omega) (fun c8 => ?_) (fun c8 => ?_)
    · refine Ex_iconst dX11_alone_20 rfl ?_
      refine Ex_iret dX11_alone_21 rfl rfl ?_
      exact Qs.same Z (by unfold an_alone; rw [if_neg q])
    · refine Ex_iload_n dX11_alone_11 rfl rfl ?_
      refine Ex_iconst dX11_alone_12 rfl ?_
      refine Ex_iconst dX11_alone_13 rfl ?_
      refine Ex_stat 0 dX11_alone_14 rfl rfl (Or.inl rfl) rfl rfl rfl rfl rfl rfl (Ex_post (x11_within (by omega)) ?_)
      rintro _ _ ⟨rfl, e0⟩
      obtain rfl := Eq.symm e0
      refine Ex_if_ne (t := 22) dX11_alone_17 rfl rfl (by omega) (fun c17 => ?_) (fun c17 => ?_)
      · exfalso; omega
      · refine Ex_iconst dX11_alone_20 rfl ?_
        refine Ex_iret dX11_alone_21 rfl rfl ?_
        exact Qs.same Z (by unfold an_alone; rw [if_neg q])
theorem x11_never {E : am_E} {d : Nat} {h : Hp} {x y n : Nat} {hi m tu : Int} {kr : Nat → Nat} {K F T S C : Nat → Int} {c : Int}  (Z : Scr h x hi) (R : RailAt h (x + 10) n m tu kr T S C) (hg : Rng n T S C) (ky : KY h y n kr K F) (hB : E.2 ≤ x) (hy : x + 57 ≤ y) (hc : (-2147483648 ≤ c ∧ c ≤ 2147483647))  : Ex E (d + 5) mX11_neverHeld 0 [.ref x, .int (i32 c)] [] h (fun r1 h1 => Qs h h1 x hi (an_never n K F T S c) r1) := by
  obtain ⟨⟨bs, z0⟩, z1, ⟨f2, z2⟩, ⟨f3, z3⟩, ⟨f4, z4⟩, ⟨f5, z5⟩, zr0, zr1, zr2, ⟨k5, t5, s5, c5, z55⟩, ⟨k6, t6, s6, c6, z56⟩⟩ := id Z
  obtain ⟨hr, hA, hP, hG, hn6⟩ := id R
  have kk := ky.ok (r := x + 10) (by omega)
  by_cases q : 0 ≤ c ∧ c < (n : Int)
  · obtain ⟨c, rfl⟩ := Int.eq_ofNat_of_zero_le (show 0 ≤ c by omega)
    have hcn : c < n := by omega
    have hgc := hg c hcn
    have kc := (kk c hcn).1
    have hya := (ky c hcn).2
    have ea : an_never n K F T S (c : Int) = alo (K c) (F c) 1 (T c) (S c) := by unfold an_never; exact if_pos q
    rw [ea]
    refine Ex_aload_n dX11_neverHeld_0 rfl rfl ?_
    refine Ex_getf dX11_neverHeld_1 rfl (by first | exact z0 | exact hr | exact hA) rfl rfl rfl ?_
    refine Ex_iload_n dX11_neverHeld_4 rfl rfl ?_
    refine Ex_inv 2 dX11_neverHeld_5 rfl rfl (Or.inl rfl) rfl rfl rfl rfl hr rfl rfl rfl (Ex_post (x7_has R (by omega)) ?_)
    rintro _ _ ⟨rfl, e0⟩
    obtain rfl := Eq.symm e0
    refine Ex_if_eq (t := 28) dX11_neverHeld_8 rfl rfl (by omega) (fun c8 => absurd c8 (by omega)) (fun c8 => ?_)
    refine Ex_aload_n dX11_neverHeld_11 rfl rfl ?_
    refine Ex_aload_n dX11_neverHeld_12 rfl rfl ?_
    refine Ex_getf dX11_neverHeld_13 rfl (by first | exact z0 | exact hr | exact hA) rfl rfl rfl ?_
    refine Ex_getf dX11_neverHeld_16 rfl (by first | exact z0 | exact hr | exact hA) rfl rfl rfl ?_
    refine Ex_iload_n dX11_neverHeld_19 rfl rfl ?_
    refine Ex_aald dX11_neverHeld_20 rfl (by first | exact z0 | exact hr | exact hA) (by omega) (by omega) (rarr_get (by omega)) ?_
    refine Ex_iconst dX11_neverHeld_21 rfl ?_
    refine Ex_inv 2 dX11_neverHeld_22 rfl rfl (Or.inl rfl) rfl rfl rfl rfl z0 rfl rfl rfl (Ex_post (Ex_d (x11_fewQ (d := 0) (fw := 1) Z (hP c hcn) kc hB ⟨by omega, by omega⟩ (by omega) hgc.1 hgc.2.1) (by omega)) ?_)
    rintro _ h9 ⟨rfl, Z9, f9⟩
    have R9 := R.frS f9
    have ky9 := ky.frS f9 hy
    obtain ⟨hr9, hA9, -⟩ := id R9
    obtain ⟨⟨bs9, z09⟩, -⟩ := id Z9
    refine Ex_goto (t := 29) dX11_neverHeld_25 rfl ?_
    refine Ex_iret dX11_neverHeld_29 rfl rfl ?_
    exact Qs.fr Z9 f9 rfl
  · refine Ex_aload_n dX11_neverHeld_0 rfl rfl ?_
    refine Ex_getf dX11_neverHeld_1 rfl (by first | exact z0 | exact hr) rfl rfl rfl ?_
    refine Ex_iload_n dX11_neverHeld_4 rfl rfl ?_
    refine Ex_inv 2 dX11_neverHeld_5 rfl rfl (Or.inl rfl) rfl rfl rfl rfl hr rfl rfl rfl (Ex_post (x7_has R (by omega)) ?_)
    rintro _ _ ⟨rfl, e0⟩
    obtain rfl := Eq.symm e0
    refine Ex_if_eq (t := 28) dX11_neverHeld_8 rfl rfl (by omega) (fun c8 => ?_) (fun c8 => absurd c8 (by omega))
    refine Ex_iconst dX11_neverHeld_28 rfl ?_
    refine Ex_iret dX11_neverHeld_29 rfl rfl ?_
    exact Qs.same Z (by unfold an_never; rw [if_neg q])
theorem x11_costs {E : am_E} {d : Nat} {h : Hp} {x y n : Nat} {hi m tu : Int} {kr : Nat → Nat} {K F T S C : Nat → Int} {c : Int}  (Z : Scr h x hi) (R : RailAt h (x + 10) n m tu kr T S C) (hg : Rng n T S C) (ky : KY h y n kr K F) (hB : E.2 ≤ x) (hy : x + 57 ≤ y) (hc : (-2147483648 ≤ c ∧ c ≤ 2147483647))  : Ex E (d + 5) mX11_costs 0 [.ref x, .int (i32 c), .retAddr 0, .retAddr 0] [] h (fun r1 h1 => Qs h h1 x hi (an_costs n K F T S c) r1) := by
  obtain ⟨⟨bs, z0⟩, z1, ⟨f2, z2⟩, ⟨f3, z3⟩, ⟨f4, z4⟩, ⟨f5, z5⟩, zr0, zr1, zr2, ⟨k5, t5, s5, c5, z55⟩, ⟨k6, t6, s6, c6, z56⟩⟩ := id Z
  obtain ⟨hr, hA, hP, hG, hn6⟩ := id R
  have kk := ky.ok (r := x + 10) (by omega)
  by_cases q : 0 ≤ c ∧ c < (n : Int)
  · obtain ⟨c, rfl⟩ := Int.eq_ofNat_of_zero_le (show 0 ≤ c by omega)
    have hcn : c < n := by omega
    have hgc := hg c hcn
    have kc := (kk c hcn).1
    have hya := (ky c hcn).2
    have hal := alo_r (k := K c) (f := F c) (fw := 0) (t := T c) (s := S c)
    have hfr := sp_fright_r (k := K c) kc.2.2.2
    have ea : an_costs n K F T S (c : Int) = cst (K c) (F c) (T c) (S c) := by unfold an_costs; exact if_pos q
    rw [ea]
    unfold cst
    by_cases q2 : alo (K c) (F c) 0 (T c) (S c) = -4
    · rw [if_pos q2]
      refine Ex_aload_n dX11_costs_0 rfl rfl ?_
      refine Ex_getf dX11_costs_1 rfl (by first | exact z0 | exact hr) rfl rfl rfl ?_
      refine Ex_iload_n dX11_costs_4 rfl rfl ?_
      refine Ex_inv 2 dX11_costs_5 rfl rfl (Or.inl rfl) rfl rfl rfl rfl hr rfl rfl rfl (Ex_post (x7_has R (by omega)) ?_)
      rintro _ _ ⟨rfl, e0⟩
      obtain rfl := Eq.symm e0
      refine Ex_if_ne (t := 13) dX11_costs_8 rfl rfl (by omega) (fun c8 => ?_) (fun c8 => absurd c8 (by omega))
      refine Ex_aload_n dX11_costs_13 rfl rfl ?_
      refine Ex_aload_n dX11_costs_14 rfl rfl ?_
      refine Ex_getf dX11_costs_15 rfl z0 rfl rfl rfl ?_
      refine Ex_getf dX11_costs_18 rfl hr rfl rfl rfl ?_
      refine Ex_iload_n dX11_costs_21 rfl rfl ?_
      refine Ex_aald dX11_costs_22 rfl hA (by omega) (by omega) (rarr_get (by omega)) ?_
      refine Ex_iconst dX11_costs_23 rfl ?_
      refine Ex_inv 2 dX11_costs_24 rfl rfl (Or.inl rfl) rfl rfl rfl rfl z0 rfl rfl rfl (Ex_post (Ex_d (x11_fewQ (d := 0) (fw := 0) Z (hP c hcn) kc hB ⟨by omega, by omega⟩ (by omega) hgc.1 hgc.2.1) (by omega)) ?_)
      rintro _ h9 ⟨rfl, Z9, f9⟩
      have R9 := R.frS f9
      have ky9 := ky.frS f9 hy
      obtain ⟨hr9, hA9, -⟩ := id R9
      obtain ⟨⟨bs9, z09⟩, -⟩ := id Z9
      refine Ex_istore_n (L2 := [_, _, _, _]) dX11_costs_27 rfl rfl rfl ?_
      refine Ex_iload_n dX11_costs_28 rfl rfl ?_
      refine Ex_bipush dX11_costs_29 rfl (by decide) ?_
      refine Ex_icmp_ne (t := 37) dX11_costs_31 rfl rfl (by omega) (fun c31 => absurd c31 (by omega)) (fun c31 => ?_)
      refine Ex_bipush dX11_costs_34 rfl (by decide) ?_
      refine Ex_iret dX11_costs_36 rfl rfl ?_
      exact Qs.fr Z9 f9 rfl
    · rw [if_neg q2, show T c - sp_fright (K c) (F c) = T c + -sp_fright (K c) (F c) from Int.sub_eq_add_neg]
      by_cases q3 : alo (K c) (F c) 0 (sp_cl (T c + -sp_fright (K c) (F c))) (S c) = -4
      · rw [if_pos q3]
        refine Ex_aload_n dX11_costs_0 rfl rfl ?_
        refine Ex_getf dX11_costs_1 rfl (by first | exact z0 | exact hr) rfl rfl rfl ?_
        refine Ex_iload_n dX11_costs_4 rfl rfl ?_
        refine Ex_inv 2 dX11_costs_5 rfl rfl (Or.inl rfl) rfl rfl rfl rfl hr rfl rfl rfl (Ex_post (x7_has R (by omega)) ?_)
        rintro _ _ ⟨rfl, e0⟩
        obtain rfl := Eq.symm e0
        refine Ex_if_ne (t := 13) dX11_costs_8 rfl rfl (by omega) (fun c8 => ?_) (fun c8 => absurd c8 (by omega))
        refine Ex_aload_n dX11_costs_13 rfl rfl ?_
        refine Ex_aload_n dX11_costs_14 rfl rfl ?_
        refine Ex_getf dX11_costs_15 rfl z0 rfl rfl rfl ?_
        refine Ex_getf dX11_costs_18 rfl hr rfl rfl rfl ?_
        refine Ex_iload_n dX11_costs_21 rfl rfl ?_
        refine Ex_aald dX11_costs_22 rfl hA (by omega) (by omega) (rarr_get (by omega)) ?_
        refine Ex_iconst dX11_costs_23 rfl ?_
        refine Ex_inv 2 dX11_costs_24 rfl rfl (Or.inl rfl) rfl rfl rfl rfl z0 rfl rfl rfl (Ex_post (Ex_d (x11_fewQ (d := 0) (fw := 0) Z (hP c hcn) kc hB ⟨by omega, by omega⟩ (by omega) hgc.1 hgc.2.1) (by omega)) ?_)
        rintro _ h9 ⟨rfl, Z9, f9⟩
        have R9 := R.frS f9
        have ky9 := ky.frS f9 hy
        obtain ⟨hr9, hA9, hP9, -⟩ := id R9
        have kc9 := (ky9 c hcn).1
        obtain ⟨⟨bs9, y0⟩, y1, ⟨g2, y2⟩, ⟨g3, y3⟩, ⟨g4, y4⟩, ⟨g5, y5⟩, yr0, yr1, yr2, y55, ⟨k9, t9, s9, c9, z569⟩⟩ := id Z9
        refine Ex_istore_n (L2 := [_, _, _, _]) dX11_costs_27 rfl rfl rfl ?_
        refine Ex_iload_n dX11_costs_28 rfl rfl ?_
        refine Ex_bipush dX11_costs_29 rfl (by decide) ?_
        refine Ex_icmp_ne (t := 37) dX11_costs_31 rfl rfl (by omega) (fun c31 => ?_) (fun c31 => absurd c31 (by omega))
        refine Ex_aload_n dX11_costs_37 rfl rfl ?_
        refine Ex_getf dX11_costs_38 rfl y0 rfl rfl rfl ?_
        refine Ex_aload_n dX11_costs_41 rfl rfl ?_
        refine Ex_getf dX11_costs_42 rfl y0 rfl rfl rfl ?_
        refine Ex_getf dX11_costs_45 rfl hr9 rfl rfl rfl ?_
        refine Ex_iload_n dX11_costs_48 rfl rfl ?_
        refine Ex_aald dX11_costs_49 rfl hA9 (by omega) (by omega) (rarr_get (by omega)) ?_
        refine Ex_inv 2 dX11_costs_50 rfl rfl (Or.inl rfl) rfl rfl rfl rfl z569 rfl rfl rfl (Ex_post (x5_setTo (a := x + 56) (b := x + 10 + 2 + c) z569 (hP9 c hcn) (by omega) (by omega)) ?_)
        rintro _ _ ⟨rfl, rfl⟩
        refine Ex_aload_n dX11_costs_53 rfl rfl ?_
        refine Ex_getf dX11_costs_54 rfl ((am_pg2 (by omega)).trans y0) rfl rfl rfl ?_
        refine Ex_aload_n dX11_costs_57 rfl rfl ?_
        refine Ex_getf dX11_costs_58 rfl ((am_pg2 (by omega)).trans y0) rfl rfl rfl ?_
        refine Ex_getf dX11_costs_61 rfl (am_pg1 _ _ _) rfl rfl rfl ?_
        refine Ex_getf dX11_costs_64 rfl ((am_pg2 (by omega)).trans kc9.1) rfl (ktag_in _) rfl ?_
        refine Ex_ineg dX11_costs_67 rfl ?_
        refine Ex_inv 2 dX11_costs_68 rfl rfl (Or.inl rfl) rfl rfl rfl rfl (am_pg1 _ _ _) rfl rfl rfl (Ex_post (x5_gain (am_pg1 _ _ _) (by omega) hgc.1 (by omega)) ?_)
        rintro _ _ ⟨rfl, rfl⟩
        rw [am_put2]
        obtain ⟨h8, hh8⟩ : ∃ h8, h8 = am_put h9 (x + 56) (pcell (kr c) (sp_cl (T c + -sp_fright (K c) (F c))) (S c) (C c)) := ⟨_, rfl⟩
        rw [← hh8]
        have f8 : FrS h9 h8 x := by rw [hh8]; exact (Fr.put (lo := x + 56) (hi := x + 57) _ (by omega)).frS (fun q _ _ => by omega)
        have c8 : h8.1 (x + 56) = some (pcell (kr c) (sp_cl (T c + -sp_fright (K c) (F c))) (S c) (C c)) := by rw [hh8]; exact am_pg1 _ _ _
        have Z8 : Scr h8 x hi := by
          have e8 : ∀ q, q ≠ x + 56 → h8.1 q = h9.1 q := fun q hq => by rw [hh8]; exact am_pg2 hq
          exact ⟨⟨bs9, (e8 _ (by omega)).trans y0⟩, (e8 _ (by omega)).trans y1, ⟨g2, (e8 _ (by omega)).trans y2⟩, ⟨g3, (e8 _ (by omega)).trans y3⟩, ⟨g4, (e8 _ (by omega)).trans y4⟩, ⟨g5, (e8 _ (by omega)).trans y5⟩, yr0.eq (fun q _ _ => e8 q (by omega)), yr1.eq (fun q _ _ => e8 q (by omega)), yr2.eq (fun q _ _ => e8 q (by omega)), y55.eq (e8 _ (by omega)), ⟨_, _, _, _, c8⟩⟩
        have ky8 := ky9.frS f8 hy
        obtain ⟨⟨bs8, z08⟩, -⟩ := id Z8
        refine Ex_aload_n dX11_costs_71 rfl rfl ?_
        refine Ex_aload_n dX11_costs_72 rfl rfl ?_
        refine Ex_getf dX11_costs_73 rfl z08 rfl rfl rfl ?_
        refine Ex_iconst dX11_costs_76 rfl ?_
        refine Ex_inv 2 dX11_costs_77 rfl rfl (Or.inl rfl) rfl rfl rfl rfl z08 rfl rfl rfl (Ex_post (Ex_d (x11_fewQ (d := 0) (fw := 0) Z8 c8 (ky8 c hcn).1 hB ⟨by omega, by omega⟩ (by omega) (sp_cl_r _) hgc.2.1) (by omega)) ?_)
        rintro _ h7 ⟨rfl, Z7, f7⟩
        have hal2 := alo_r (k := K c) (f := F c) (fw := 0) (t := (sp_cl (T c + -sp_fright (K c) (F c)))) (s := S c)
        refine Ex_istore_n (L2 := [_, _, _, _]) dX11_costs_80 rfl rfl rfl ?_
        refine Ex_iload_n dX11_costs_81 rfl rfl ?_
        refine Ex_bipush dX11_costs_82 rfl (by decide) ?_
        refine Ex_icmp_ne (t := 92) dX11_costs_84 rfl rfl (by omega) (fun c84 => absurd c84 (by omega)) (fun c84 => ?_)
        refine Ex_bipush dX11_costs_87 rfl (by decide) ?_
        refine Ex_goto (t := 93) dX11_costs_89 rfl ?_
        refine Ex_iload_n dX11_costs_93 rfl rfl ?_
        refine Ex_isub dX11_costs_94 rfl ?_
        refine Ex_iret dX11_costs_95 rfl rfl ?_
        exact Qs.fr Z7 ((f9.trans f8).trans f7) rfl
      · rw [if_neg q3]
        refine Ex_aload_n dX11_costs_0 rfl rfl ?_
        refine Ex_getf dX11_costs_1 rfl (by first | exact z0 | exact hr) rfl rfl rfl ?_
        refine Ex_iload_n dX11_costs_4 rfl rfl ?_
        refine Ex_inv 2 dX11_costs_5 rfl rfl (Or.inl rfl) rfl rfl rfl rfl hr rfl rfl rfl (Ex_post (x7_has R (by omega)) ?_)
        rintro _ _ ⟨rfl, e0⟩
        obtain rfl := Eq.symm e0
        refine Ex_if_ne (t := 13) dX11_costs_8 rfl rfl (by omega) (fun c8 => ?_) (fun c8 => absurd c8 (by omega))
        refine Ex_aload_n dX11_costs_13 rfl rfl ?_
        refine Ex_aload_n dX11_costs_14 rfl rfl ?_
        refine Ex_getf dX11_costs_15 rfl z0 rfl rfl rfl ?_
        refine Ex_getf dX11_costs_18 rfl hr rfl rfl rfl ?_
        refine Ex_iload_n dX11_costs_21 rfl rfl ?_
        refine Ex_aald dX11_costs_22 rfl hA (by omega) (by omega) (rarr_get (by omega)) ?_
        refine Ex_iconst dX11_costs_23 rfl ?_
        refine Ex_inv 2 dX11_costs_24 rfl rfl (Or.inl rfl) rfl rfl rfl rfl z0 rfl rfl rfl (Ex_post (Ex_d (x11_fewQ (d := 0) (fw := 0) Z (hP c hcn) kc hB ⟨by omega, by omega⟩ (by omega) hgc.1 hgc.2.1) (by omega)) ?_)
        rintro _ h9 ⟨rfl, Z9, f9⟩
        have R9 := R.frS f9
        have ky9 := ky.frS f9 hy
        obtain ⟨hr9, hA9, hP9, -⟩ := id R9
        have kc9 := (ky9 c hcn).1
        obtain ⟨⟨bs9, y0⟩, y1, ⟨g2, y2⟩, ⟨g3, y3⟩, ⟨g4, y4⟩, ⟨g5, y5⟩, yr0, yr1, yr2, y55, ⟨k9, t9, s9, c9, z569⟩⟩ := id Z9
        refine Ex_istore_n (L2 := [_, _, _, _]) dX11_costs_27 rfl rfl rfl ?_
        refine Ex_iload_n dX11_costs_28 rfl rfl ?_
        refine Ex_bipush dX11_costs_29 rfl (by decide) ?_
        refine Ex_icmp_ne (t := 37) dX11_costs_31 rfl rfl (by omega) (fun c31 => ?_) (fun c31 => absurd c31 (by omega))
        refine Ex_aload_n dX11_costs_37 rfl rfl ?_
        refine Ex_getf dX11_costs_38 rfl y0 rfl rfl rfl ?_
        refine Ex_aload_n dX11_costs_41 rfl rfl ?_
        refine Ex_getf dX11_costs_42 rfl y0 rfl rfl rfl ?_
        refine Ex_getf dX11_costs_45 rfl hr9 rfl rfl rfl ?_
        refine Ex_iload_n dX11_costs_48 rfl rfl ?_
        refine Ex_aald dX11_costs_49 rfl hA9 (by omega) (by omega) (rarr_get (by omega)) ?_
        refine Ex_inv 2 dX11_costs_50 rfl rfl (Or.inl rfl) rfl rfl rfl rfl z569 rfl rfl rfl (Ex_post (x5_setTo (a := x + 56) (b := x + 10 + 2 + c) z569 (hP9 c hcn) (by omega) (by omega)) ?_)
        rintro _ _ ⟨rfl, rfl⟩
        refine Ex_aload_n dX11_costs_53 rfl rfl ?_
        refine Ex_getf dX11_costs_54 rfl ((am_pg2 (by omega)).trans y0) rfl rfl rfl ?_
        refine Ex_aload_n dX11_costs_57 rfl rfl ?_
        refine Ex_getf dX11_costs_58 rfl ((am_pg2 (by omega)).trans y0) rfl rfl rfl ?_
        refine Ex_getf dX11_costs_61 rfl (am_pg1 _ _ _) rfl rfl rfl ?_
        refine Ex_getf dX11_costs_64 rfl ((am_pg2 (by omega)).trans kc9.1) rfl (ktag_in _) rfl ?_
        refine Ex_ineg dX11_costs_67 rfl ?_
        refine Ex_inv 2 dX11_costs_68 rfl rfl (Or.inl rfl) rfl rfl rfl rfl (am_pg1 _ _ _) rfl rfl rfl (Ex_post (x5_gain (am_pg1 _ _ _) (by omega) hgc.1 (by omega)) ?_)
        rintro _ _ ⟨rfl, rfl⟩
        rw [am_put2]
        obtain ⟨h8, hh8⟩ : ∃ h8, h8 = am_put h9 (x + 56) (pcell (kr c) (sp_cl (T c + -sp_fright (K c) (F c))) (S c) (C c)) := ⟨_, rfl⟩
        rw [← hh8]
        have f8 : FrS h9 h8 x := by rw [hh8]; exact (Fr.put (lo := x + 56) (hi := x + 57) _ (by omega)).frS (fun q _ _ => by omega)
        have c8 : h8.1 (x + 56) = some (pcell (kr c) (sp_cl (T c + -sp_fright (K c) (F c))) (S c) (C c)) := by rw [hh8]; exact am_pg1 _ _ _
        have Z8 : Scr h8 x hi := by
          have e8 : ∀ q, q ≠ x + 56 → h8.1 q = h9.1 q := fun q hq => by rw [hh8]; exact am_pg2 hq
          exact ⟨⟨bs9, (e8 _ (by omega)).trans y0⟩, (e8 _ (by omega)).trans y1, ⟨g2, (e8 _ (by omega)).trans y2⟩, ⟨g3, (e8 _ (by omega)).trans y3⟩, ⟨g4, (e8 _ (by omega)).trans y4⟩, ⟨g5, (e8 _ (by omega)).trans y5⟩, yr0.eq (fun q _ _ => e8 q (by omega)), yr1.eq (fun q _ _ => e8 q (by omega)), yr2.eq (fun q _ _ => e8 q (by omega)), y55.eq (e8 _ (by omega)), ⟨_, _, _, _, c8⟩⟩
        have ky8 := ky9.frS f8 hy
        obtain ⟨⟨bs8, z08⟩, -⟩ := id Z8
        refine Ex_aload_n dX11_costs_71 rfl rfl ?_
        refine Ex_aload_n dX11_costs_72 rfl rfl ?_
        refine Ex_getf dX11_costs_73 rfl z08 rfl rfl rfl ?_
        refine Ex_iconst dX11_costs_76 rfl ?_
        refine Ex_inv 2 dX11_costs_77 rfl rfl (Or.inl rfl) rfl rfl rfl rfl z08 rfl rfl rfl (Ex_post (Ex_d (x11_fewQ (d := 0) (fw := 0) Z8 c8 (ky8 c hcn).1 hB ⟨by omega, by omega⟩ (by omega) (sp_cl_r _) hgc.2.1) (by omega)) ?_)
        rintro _ h7 ⟨rfl, Z7, f7⟩
        have hal2 := alo_r (k := K c) (f := F c) (fw := 0) (t := (sp_cl (T c + -sp_fright (K c) (F c)))) (s := S c)
        refine Ex_istore_n (L2 := [_, _, _, _]) dX11_costs_80 rfl rfl rfl ?_
        refine Ex_iload_n dX11_costs_81 rfl rfl ?_
        refine Ex_bipush dX11_costs_82 rfl (by decide) ?_
        refine Ex_icmp_ne (t := 92) dX11_costs_84 rfl rfl (by omega) (fun c84 => ?_) (fun c84 => absurd c84 (by omega))
        refine Ex_iload_n dX11_costs_92 rfl rfl ?_
        refine Ex_iload_n dX11_costs_93 rfl rfl ?_
        refine Ex_isub dX11_costs_94 rfl ?_
        refine Ex_iret dX11_costs_95 rfl rfl ?_
        exact Qs.fr Z7 ((f9.trans f8).trans f7) rfl
  · refine Ex_aload_n dX11_costs_0 rfl rfl ?_
    refine Ex_getf dX11_costs_1 rfl (by first | exact z0 | exact hr) rfl rfl rfl ?_
    refine Ex_iload_n dX11_costs_4 rfl rfl ?_
    refine Ex_inv 2 dX11_costs_5 rfl rfl (Or.inl rfl) rfl rfl rfl rfl hr rfl rfl rfl (Ex_post (x7_has R (by omega)) ?_)
    rintro _ _ ⟨rfl, e0⟩
    obtain rfl := Eq.symm e0
    refine Ex_if_ne (t := 13) dX11_costs_8 rfl rfl (by omega) (fun c8 => absurd c8 (by omega)) (fun c8 => ?_)
    refine Ex_iconst dX11_costs_11 rfl ?_
    refine Ex_iret dX11_costs_12 rfl rfl ?_
    exact Qs.same Z (by unfold an_costs; rw [if_neg q])
