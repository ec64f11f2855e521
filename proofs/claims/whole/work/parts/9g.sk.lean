/-! the law: toss, element, the loop, the start (by program: wip/whole/spec_sk.py) -/
theorem CI.g {h h1 : Hp} {x c s : Nat} {X XI : RS} {hi : Int} {hw ck cf rs : Nat → Int} {rx : Nat → List Int} (C : CI h x X XI hi hw ck cf rs rx) (f : Gr h h1 (x + 80) (x + 81) c s) : CI h1 x X XI hi hw ck cf rs rx := by
  obtain ⟨c1, ⟨kr, tu, c2⟩, ⟨c3, c4⟩, ⟨sa, c5⟩, c6, c7⟩ := C
  have e : ∀ q v, ¬ (q = x + 80) → h.1 q = some v → h1.1 q = some v := fun q v hq => f.2.2 q v (by omega)
  refine ⟨c1.ol (fun q v hq => e q v (by omega)), ⟨kr, tu, c2.ol (fun q v hq => e q v (by omega))⟩, ⟨fun z => ?_, c4.ol (fun q v h1 h2 => e q v (by omega))⟩, ⟨sa, c5.ol (fun q v hq => e q v (by omega))⟩, f.2.1, by have := f.1; omega⟩
  obtain ⟨kr, tu, k⟩ := c3 z
  exact ⟨kr, tu, k.ol (fun q v hq => e q v (by omega))⟩
theorem el_tr (hw : Nat → Int) (rx : Nat → List Int) (p q : Int) : el_t hw rx p q = 0 ∨ el_t hw rx p q = 1 ∨ el_t hw rx p q = 2 := by
  unfold el_t
  repeat' split
  all_goals omega
theorem lw_toss {E : am_E} {d x sc i : Nat} {h : Hp} {xs : List Int} {Q : Option Value → Hp → Prop} {v5 v6 v7 : Value} (hB : E.2 ≤ x) (hx : ∀ z ∈ xs, -2147483648 ≤ z ∧ z ≤ 2147483647) (hl : i + 6 ≤ xs.length) (hl2 : xs.length ≤ 100000) (ha : h.1 sc = some (20, ia xs)) (hsc : sc < x) (I : IN h x) (hT : OrT E) (kont : ∀ (h2 : Hp) (w5 w6 w7 : Value), IN h2 x → GW h h2 x 400 3200 → Ex E (d + 21) mL_law 1538 [.ref sc, .ref x, .ref (x + 57), .ref (x + 80), .int (i32 (i : Int)), w5, w6, w7] [] h2 Q) : Ex E (d + 21) mL_law 1513 [.ref sc, .ref x, .ref (x + 57), .ref (x + 80), .int (i32 (i : Int)), v5, v6, v7] [] h Q := by
  obtain ⟨bs, hx0⟩ := IN.x0 I
  obtain ⟨X, XI, hi, hw, ck, cf, rs, rx, P, C, R, O⟩ := I
  obtain ⟨n, mm, K, F, T, S, C0⟩ := X
  obtain ⟨⟨hn6, hg, hK, hm9⟩, P2, P3⟩ := id P
  have hn6 : n ≤ 6 := hn6
  have hg : Rng n T S C0 := hg
  have hK : ∀ i, i < n → (0 ≤ K i ∧ K i ≤ 7) ∧ (0 ≤ F i ∧ F i ≤ 9) := hK
  obtain ⟨h1, eO, f1⟩ := hT h x _ _ _ _ _ _ _ _ (sv xs ((i : Int) + 1)) C (sv_r hx _) hB
  refine Ex_aload_n dL_law_1513 rfl rfl ?_
  refine Ex_aload_n dL_law_1514 rfl rfl ?_
  refine Ex_iload dL_law_1515 rfl rfl ?_
  refine Ex_iconst dL_law_1517 rfl ?_
  refine Ex_iadd dL_law_1518 rfl ?_
  refine Ex_scr dL_law_1519 rfl ha (by omega) ?_
  refine Ex_orc (mode := 10) dL_law_1520 rfl rfl (by decide) (by omega) rfl rfl rfl rfl (by show am_rc 10 [11] [.ref x, .int (i32 (sv xs ((i : Int) + 1)))] h = true; simp only [am_rc, hx0]; rfl) eO rfl ?_
  have C1 := C.n f1
  obtain ⟨gw1, ⟨σ, MIh, SV, hI⟩, O1, fs, hm1⟩ := K1.mid (f1.k1 (Or.inl (by omega)) (by omega) (by omega)) R O
  have ha1 := gw1.2 _ _ hsc ha
  refine Ex_aload_n dL_law_1523 rfl rfl ?_
  refine Ex_aload_n dL_law_1524 rfl rfl ?_
  refine Ex_iload dL_law_1525 rfl rfl ?_
  refine Ex_iconst dL_law_1527 rfl ?_
  refine Ex_iadd dL_law_1528 rfl ?_
  refine Ex_scr dL_law_1529 rfl ha1 (by omega) ?_
  refine Ex_inv 2 dL_law_1530 rfl rfl (Or.inl rfl) rfl rfl rfl rfl hm1 rfl rfl rfl (Ex_post (x12_toss (d := d + 18) MIh hn6 hg hK (by omega) SV (sv_r hx _)) ?_)
  rintro r2 h2 ⟨rfl, ⟨σ2, MI2, SV2, e16⟩, f2⟩
  refine Ex_icmp_same (t := 1538) dL_law_1533 rfl ?_
  obtain ⟨I2, gw2⟩ := pr_end P C1 O1 f2 ⟨σ2, MI2, SV2, by rw [e16]; exact hI⟩
  exact kont h2 _ _ _ I2 ((gw1.trans gw2).wide (by omega) (by omega))
theorem lw_element {E : am_E} {d x sc i : Nat} {h : Hp} {xs : List Int} {Q : Option Value → Hp → Prop} {v5 v6 v7 : Value} (hB : E.2 ≤ x) (hx : ∀ z ∈ xs, -2147483648 ≤ z ∧ z ≤ 2147483647) (hl : i + 6 ≤ xs.length) (hl2 : xs.length ≤ 100000) (ha : h.1 sc = some (20, ia xs)) (hsc : sc < x) (I : IN h x) (hE : OrE E) (kont : ∀ (h2 : Hp) (w5 w6 w7 : Value), IN h2 x → GW h h2 x 400 3200 → Ex E (d + 21) mL_law 1538 [.ref sc, .ref x, .ref (x + 57), .ref (x + 80), .int (i32 (i : Int)), w5, w6, w7] [] h2 Q) : Ex E (d + 21) mL_law 1348 [.ref sc, .ref x, .ref (x + 57), .ref (x + 80), .int (i32 (i : Int)), v5, v6, v7] [] h Q := by
  obtain ⟨bs, hx0⟩ := IN.x0 I
  obtain ⟨X, XI, hi, hw, ck, cf, rs, rx, P, C, R, O⟩ := I
  obtain ⟨n, mm, K, F, T, S, C0⟩ := X
  obtain ⟨⟨hn6, hg, hK, hm9⟩, P2, P3⟩ := id P
  have hn6 : n ≤ 6 := hn6
  have hg : Rng n T S C0 := hg
  have hK : ∀ i, i < n → (0 ≤ K i ∧ K i ≤ 7) ∧ (0 ≤ F i ∧ F i ≤ 9) := hK
  obtain ⟨z, Oz⟩ := O
  obtain ⟨h1, eO, f1, z2, Oz2, ez2⟩ := hE h x _ _ _ _ _ _ _ _ (sv xs ((i : Int) + 1)) (sv xs ((i : Int) + 2)) z C (sv_r hx _) (sv_r hx _) hB Oz
  have htr := el_tr hw rx (sv xs ((i : Int) + 1)) (sv xs ((i : Int) + 2))
  refine Ex_aload_n dL_law_1348 rfl rfl ?_
  refine Ex_aload_n dL_law_1349 rfl rfl ?_
  refine Ex_iload dL_law_1350 rfl rfl ?_
  refine Ex_iconst dL_law_1352 rfl ?_
  refine Ex_iadd dL_law_1353 rfl ?_
  refine Ex_scr dL_law_1354 rfl ha (by omega) ?_
  refine Ex_aload_n dL_law_1355 rfl rfl ?_
  refine Ex_iload dL_law_1356 rfl rfl ?_
  refine Ex_iconst dL_law_1358 rfl ?_
  refine Ex_iadd dL_law_1359 rfl ?_
  refine Ex_scr dL_law_1360 rfl ha (by omega) ?_
  refine Ex_aload_n dL_law_1361 rfl rfl ?_
  refine Ex_orc (mode := 11) dL_law_1362 rfl rfl (by decide) (by omega) rfl rfl rfl rfl rfl eO rfl ?_
  have C1 := C.g f1
  have gw1 : GW h h1 x 200 1600 := f1.gw (Or.inl (by omega)) (by omega) (by omega)
  obtain ⟨σ, MIh, SV, hI⟩ := R.ol (h1 := h1) (fun q v h1 h2 => f1.2.2 q v (by omega))
  have O1 : OCe h1 x := ⟨z2, Oz2⟩
  have hm1 : ∃ fs, h1.1 (x + 57) = some (12, fs) := by
    obtain ⟨g, ρ, kp, M, -⟩ := id MIh
    exact ⟨_, ma0 M⟩
  obtain ⟨fs, hm1⟩ := hm1
  have ha1 := gw1.2 _ _ hsc ha
  refine Ex_istore (L2 := [_, _, _, _, _, _, _, _]) dL_law_1365 rfl rfl rfl ?_
  refine Ex_aload_n dL_law_1367 rfl rfl ?_
  refine Ex_aload_n dL_law_1368 rfl rfl ?_
  refine Ex_iload dL_law_1369 rfl rfl ?_
  refine Ex_iconst dL_law_1371 rfl ?_
  refine Ex_iadd dL_law_1372 rfl ?_
  refine Ex_scr dL_law_1373 rfl ha1 (by omega) ?_
  refine Ex_aload_n dL_law_1374 rfl rfl ?_
  refine Ex_iload dL_law_1375 rfl rfl ?_
  refine Ex_iconst dL_law_1377 rfl ?_
  refine Ex_iadd dL_law_1378 rfl ?_
  refine Ex_scr dL_law_1379 rfl ha1 (by omega) ?_
  refine Ex_inv 2 dL_law_1380 rfl rfl (Or.inl rfl) rfl rfl rfl rfl hm1 rfl rfl rfl (Ex_post (x12_element (d := d + 18) MIh hn6 hg hK (by omega) SV (sv_r hx _) (sv_r hx _)) ?_)
  rintro r2 h2 ⟨rfl, ⟨σ2, MI2, SV2, e16⟩, f2⟩
  obtain ⟨I2, gw2⟩ := pr_end P C1 O1 f2 ⟨σ2, MI2.mi, SV2, by rw [e16]; exact hI⟩
  have gw := (gw1.trans gw2).wide (show 200 + 0 ≤ 400 by omega) (show 1600 + 0 ≤ 3200 by omega)
  have hm2 : ∃ fs, h2.1 (x + 57) = some (12, fs) := by
    obtain ⟨g, ρ, kp, M, -⟩ := id MI2
    exact ⟨_, ma0 M⟩
  obtain ⟨fs2, hm2⟩ := hm2
  have Oz3 : h2.1 (x + 80) = some (21, [.long z2]) := (f2.2 _ (by omega)).trans Oz2
  refine Ex_lstore (L2 := [_, _, _, _, _, _, _, _]) dL_law_1383 rfl rfl rfl ?_
  refine Ex_aload_n dL_law_1385 rfl rfl ?_
  refine Ex_inv 2 dL_law_1386 rfl rfl (Or.inl rfl) rfl rfl rfl rfl hm2 rfl rfl rfl (Ex_post (x12_thrown13 (d := d + 20) MI2) ?_)
  rintro r3 h3 ⟨rfl, e3⟩
  obtain rfl := Eq.symm e3
  refine Ex_iload dL_law_1389 rfl rfl ?_
  refine Ex_icmp_same (t := 1396) dL_law_1391 rfl ?_
  refine Ex_iload dL_law_1396 rfl rfl ?_
  refine Ex_if_ne (t := 1412) dL_law_1398 rfl rfl (by omega) (fun _ => ?_) (fun z0 => ?_)
  · refine Ex_goto (t := 1538) dL_law_1412 rfl ?_
    exact kont h2 _ _ _ I2 gw
  · refine Ex_aload_n dL_law_1401 rfl rfl ?_
    refine Ex_iconst dL_law_1402 rfl ?_
    refine Ex_lald dL_law_1403 rfl Oz3 (by omega) rfl ?_
    rw [ez2 (by omega)]
    refine Ex_lload dL_law_1404 rfl rfl ?_
    refine Ex_lcmp_same dL_law_1406 rfl ?_
    refine Ex_if_eq (t := 1412) dL_law_1407 rfl rfl (by omega) (fun _ => ?_) (fun z => absurd rfl z)
    refine Ex_goto (t := 1538) dL_law_1412 rfl ?_
    exact kont h2 _ _ _ I2 gw
theorem and63 (x : Int32) : ∃ j : Int, (0 ≤ j ∧ j ≤ 63) ∧ x &&& i32 63 = i32 j := by
  refine ⟨(x &&& i32 63).toInt, ?_, i32_of _⟩
  have h1 : (x &&& i32 63).toBitVec.toNat ≤ 63 := by
    have e : (x &&& i32 63).toBitVec = x.toBitVec &&& 63#32 := rfl
    rw [e, BitVec.toNat_and]
    exact Nat.and_le_right
  have h2 : (x &&& i32 63).toInt = ((x &&& i32 63).toBitVec.toNat : Int) := by
    show (x &&& i32 63).toBitVec.toInt = _
    rw [BitVec.toInt_eq_toNat_of_lt (by omega)]
  omega
theorem lw_loop {E : am_E} {d x sc : Nat} {xs : List Int} (hB : E.2 ≤ x) (hx : ∀ z ∈ xs, -2147483648 ≤ z ∧ z ≤ 2147483647) (hl2 : xs.length ≤ 100000) (hsc : sc < x) (hT : OrT E) (hE : OrE E) : ∀ (k i : Nat) (h : Hp) (v5 v6 v7 : Value), xs.length < i + 6 * (k + 1) → i ≤ xs.length → h.1 sc = some (20, ia xs) → IN h x → Ex E (d + 21) mL_law 23 [.ref sc, .ref x, .ref (x + 57), .ref (x + 80), .int (i32 (i : Int)), v5, v6, v7] [] h (fun r h2 => r = some (.int (i32 1)) ∧ GW h h2 x (400 * k) (3200 * k)) := by
  intro k
  induction k with
  | zero =>
    intro i h v5 v6 v7 hk hi ha I
    refine Ex_iload dL_law_23 rfl rfl ?_
    refine Ex_aload_n dL_law_25 rfl rfl ?_
    refine Ex_alen (n := (xs.length : Int)) dL_law_26 rfl ha (by omega) (by rw [ia_len]) ?_
    refine Ex_bipush dL_law_27 rfl (by decide) ?_
    refine Ex_isub dL_law_29 rfl ?_
    refine Ex_icmp_gt (t := 1544) dL_law_30 rfl rfl (by omega) (fun _ => ?_) (fun z => absurd z (by omega))
    refine Ex_iconst dL_law_1544 rfl ?_
    refine Ex_iret (ty := .boolean) dL_law_1545 rfl rfl ?_
    exact ⟨rfl, GW.rf _ _ _ _⟩
  | succ k ih =>
    intro i h v5 v6 v7 hk hi ha I
    by_cases ql : i + 6 ≤ xs.length
    · refine Ex_iload dL_law_23 rfl rfl ?_
      refine Ex_aload_n dL_law_25 rfl rfl ?_
      refine Ex_alen (n := (xs.length : Int)) dL_law_26 rfl ha (by omega) (by rw [ia_len]) ?_
      refine Ex_bipush dL_law_27 rfl (by decide) ?_
      refine Ex_isub dL_law_29 rfl ?_
      refine Ex_icmp_gt (t := 1544) dL_law_30 rfl rfl (by omega) (fun z => absurd z (by omega)) (fun _ => ?_)
      refine Ex_aload_n dL_law_33 rfl rfl ?_
      refine Ex_iload dL_law_34 rfl rfl ?_
      refine Ex_scr dL_law_36 rfl ha (by omega) ?_
      refine Ex_bipush dL_law_37 rfl (by decide) ?_
      refine Ex_iandW dL_law_39 rfl ?_
      obtain ⟨j, hj, ej⟩ := and63 (i32 (sv xs (i : Int)))
      rw [ej]
      have kont : ∀ (h2 : Hp) (w5 w6 w7 : Value), IN h2 x → GW h h2 x 400 3200 → Ex E (d + 21) mL_law 1538 [.ref sc, .ref x, .ref (x + 57), .ref (x + 80), .int (i32 (i : Int)), w5, w6, w7] [] h2 (fun r h3 => r = some (.int (i32 1)) ∧ GW h h3 x (400 * (k + 1)) (3200 * (k + 1))) := by
        intro h2 w5 w6 w7 I2 gw
        refine Ex_iinc (L2 := [_, _, _, _, _, _, _, _]) dL_law_1538 rfl rfl rfl ?_
        refine Ex_goto (t := 23) dL_law_1541 rfl ?_
        refine Ex_post (ih (i + 6) h2 w5 w6 w7 (by omega) (by omega) (gw.2 _ _ hsc ha) I2) ?_
        rintro r h3 ⟨rfl, gw3⟩
        exact ⟨rfl, (gw.trans gw3).wide (by omega) (by omega)⟩
      by_cases hd37 : 37 < j
      · refine Ex_tabOut (t := 1538) dL_law_40 rfl (by omega) (by omega) ?_
        exact kont h _ _ _ I (GW.rf _ _ _ _)
      rcases (show j = 0 ∨ j = 1 ∨ j = 2 ∨ j = 3 ∨ j = 4 ∨ j = 5 ∨ j = 6 ∨ j = 7 ∨ j = 8 ∨ j = 9 ∨ j = 10 ∨ j = 11 ∨ j = 12 ∨ j = 13 ∨ j = 14 ∨ j = 15 ∨ j = 16 ∨ j = 17 ∨ j = 18 ∨ j = 19 ∨ j = 20 ∨ j = 21 ∨ j = 22 ∨ j = 23 ∨ j = 24 ∨ j = 25 ∨ j = 26 ∨ j = 27 ∨ j = 28 ∨ j = 29 ∨ j = 30 ∨ j = 31 ∨ j = 32 ∨ j = 33 ∨ j = 34 ∨ j = 35 ∨ j = 36 ∨ j = 37 by omega) with e | e | e | e | e | e | e | e | e | e | e | e | e | e | e | e | e | e | e | e | e | e | e | e | e | e | e | e | e | e | e | e | e | e | e | e | e | e
      · refine Ex_tabIn (t := 208) 0 dL_law_40 e (by omega) (by omega) rfl rfl ?_
        exact lw_bath (d := d) hB hx ql hl2 ha hsc I kont
      · refine Ex_tabIn (t := 233) 1 dL_law_40 e (by omega) (by omega) rfl rfl ?_
        exact lw_child (d := d) hB hx ql hl2 ha hsc I kont
      · refine Ex_tabIn (t := 270) 2 dL_law_40 e (by omega) (by omega) rfl rfl ?_
        exact lw_comes (d := d) hB hx ql hl2 ha hsc I kont
      · refine Ex_tabIn (t := 307) 3 dL_law_40 e (by omega) (by omega) rfl rfl ?_
        exact lw_feels (d := d) hB hx ql hl2 ha hsc I kont
      · refine Ex_tabIn (t := 356) 4 dL_law_40 e (by omega) (by omega) rfl rfl ?_
        exact lw_minute (d := d) hB hx ql hl2 ha hsc I kont
      · refine Ex_tabIn (t := 393) 5 dL_law_40 e (by omega) (by omega) rfl rfl ?_
        exact lw_change (d := d) hB hx ql hl2 ha hsc I kont
      · refine Ex_tabIn (t := 430) 6 dL_law_40 e (by omega) (by omega) rfl rfl ?_
        exact lw_rest (d := d) hB hx ql hl2 ha hsc I kont
      · refine Ex_tabIn (t := 455) 7 dL_law_40 e (by omega) (by omega) rfl rfl ?_
        exact lw_ready (d := d) hB hx ql hl2 ha hsc I kont
      · refine Ex_tabIn (t := 468) 8 dL_law_40 e (by omega) (by omega) rfl rfl ?_
        exact lw_alone (d := d) hB hx ql hl2 ha hsc I kont
      · refine Ex_tabIn (t := 505) 9 dL_law_40 e (by omega) (by omega) rfl rfl ?_
        exact lw_neverHeld (d := d) hB hx ql hl2 ha hsc I kont
      · refine Ex_tabIn (t := 530) 10 dL_law_40 e (by omega) (by omega) rfl rfl ?_
        exact lw_mostSteps (d := d) hB hx ql hl2 ha hsc I kont
      · refine Ex_tabIn (t := 567) 11 dL_law_40 e (by omega) (by omega) rfl rfl ?_
        exact lw_byTurns (d := d) hB hx ql hl2 ha hsc I kont
      · refine Ex_tabIn (t := 604) 12 dL_law_40 e (by omega) (by omega) rfl rfl ?_
        exact lw_allSwim (d := d) hB hx ql hl2 ha hsc I kont
      · refine Ex_tabIn (t := 617) 13 dL_law_40 e (by omega) (by omega) rfl rfl ?_
        exact lw_beside (d := d) hB hx ql hl2 ha hsc I kont
      · refine Ex_tabIn (t := 642) 14 dL_law_40 e (by omega) (by omega) rfl rfl ?_
        exact lw_helps (d := d) hB hx ql hl2 ha hsc I kont
      · refine Ex_tabIn (t := 655) 15 dL_law_40 e (by omega) (by omega) rfl rfl ?_
        exact lw_costs (d := d) hB hx ql hl2 ha hsc I kont
      · refine Ex_tabIn (t := 680) 16 dL_law_40 e (by omega) (by omega) rfl rfl ?_
        exact lw_bands (d := d) hB hx ql hl2 ha hsc I kont
      · refine Ex_tabIn (t := 729) 17 dL_law_40 e (by omega) (by omega) rfl rfl ?_
        exact lw_frights (d := d) hB hx ql hl2 ha hsc I kont
      · refine Ex_tabIn (t := 803) 18 dL_law_40 e (by omega) (by omega) rfl rfl ?_
        exact lw_was (d := d) hB hx ql hl2 ha hsc I kont
      · refine Ex_tabIn (t := 864) 19 dL_law_40 e (by omega) (by omega) rfl rfl ?_
        exact lw_dare (d := d) hB hx ql hl2 ha hsc I kont
      · refine Ex_tabIn (t := 901) 20 dL_law_40 e (by omega) (by omega) rfl rfl ?_
        exact lw_group (d := d) hB hx ql hl2 ha hsc I kont
      · refine Ex_tabIn (t := 938) 21 dL_law_40 e (by omega) (by omega) rfl rfl ?_
        exact lw_forget (d := d) hB hx ql hl2 ha hsc I kont
      · refine Ex_tabIn (t := 951) 22 dL_law_40 e (by omega) (by omega) rfl rfl ?_
        exact lw_coldest (d := d) hB hx ql hl2 ha hsc I kont
      · refine Ex_tabIn (t := 988) 23 dL_law_40 e (by omega) (by omega) rfl rfl ?_
        exact lw_last (d := d) hB hx ql hl2 ha hsc I kont
      · refine Ex_tabIn (t := 1001) 24 dL_law_40 e (by omega) (by omega) rfl rfl ?_
        exact lw_mean (d := d) hB hx ql hl2 ha hsc I kont
      · refine Ex_tabIn (t := 1027) 25 dL_law_40 e (by omega) (by omega) rfl rfl ?_
        exact lw_forged (d := d) hB hx ql hl2 ha hsc I kont
      · refine Ex_tabIn (t := 1052) 26 dL_law_40 e (by omega) (by omega) rfl rfl ?_
        exact lw_judge (d := d) hB hx ql hl2 ha hsc I kont
      · refine Ex_tabIn (t := 1089) 27 dL_law_40 e (by omega) (by omega) rfl rfl ?_
        exact lw_weeks (d := d) hB hx ql hl2 ha hsc I kont
      · refine Ex_tabIn (t := 1138) 28 dL_law_40 e (by omega) (by omega) rfl rfl ?_
        exact lw_image (d := d) hB hx ql hl2 ha hsc I kont
      · refine Ex_tabIn (t := 1151) 29 dL_law_40 e (by omega) (by omega) rfl rfl ?_
        exact lw_restore (d := d) hB hx ql hl2 ha hsc I kont
      · refine Ex_tabIn (t := 1164) 30 dL_law_40 e (by omega) (by omega) rfl rfl ?_
        exact lw_count (d := d) hB hx ql hl2 ha hsc I kont
      · refine Ex_tabIn (t := 1189) 31 dL_law_40 e (by omega) (by omega) rfl rfl ?_
        exact lw_keep (d := d) hB hx ql hl2 ha hsc I kont
      · refine Ex_tabIn (t := 1250) 32 dL_law_40 e (by omega) (by omega) rfl rfl ?_
        exact lw_row (d := d) hB hx ql hl2 ha hsc I kont
      · refine Ex_tabIn (t := 1299) 33 dL_law_40 e (by omega) (by omega) rfl rfl ?_
        exact lw_put (d := d) hB hx ql hl2 ha hsc I kont
      · refine Ex_tabIn (t := 1348) 34 dL_law_40 e (by omega) (by omega) rfl rfl ?_
        exact lw_element (d := d) hB hx ql hl2 ha hsc I hE kont
      · refine Ex_tabIn (t := 1415) 35 dL_law_40 e (by omega) (by omega) rfl rfl ?_
        exact lw_copy (d := d) hB hx ql hl2 ha hsc I kont
      · refine Ex_tabIn (t := 1488) 36 dL_law_40 e (by omega) (by omega) rfl rfl ?_
        exact lw_cost (d := d) hB hx ql hl2 ha hsc I kont
      · refine Ex_tabIn (t := 1513) 37 dL_law_40 e (by omega) (by omega) rfl rfl ?_
        exact lw_toss (d := d) hB hx ql hl2 ha hsc I hT kont
    · refine Ex_iload dL_law_23 rfl rfl ?_
      refine Ex_aload_n dL_law_25 rfl rfl ?_
      refine Ex_alen (n := (xs.length : Int)) dL_law_26 rfl ha (by omega) (by rw [ia_len]) ?_
      refine Ex_bipush dL_law_27 rfl (by decide) ?_
      refine Ex_isub dL_law_29 rfl ?_
      refine Ex_icmp_gt (t := 1544) dL_law_30 rfl rfl (by omega) (fun _ => ?_) (fun z => absurd z (by omega))
      refine Ex_iconst dL_law_1544 rfl ?_
      refine Ex_iret (ty := .boolean) dL_law_1545 rfl rfl ?_
      exact ⟨rfl, GW.rf _ _ _ _⟩
