/-! the law from its start (by program: wip/whole/spec_sl.py) -/
abbrev big (x : Nat) : List OC := z57 x ++ y23 (x + 57) ++ [(21, [.long (i64 0)])]
theorem big_rail {h0 : Hp} {x t : Nat} (hx : x = h0.2.1) (r j : Nat) (hr : r = x + j) (e : ∀ i, i < 9 → (big x)[j + i]? = [rcell r 0 0 0, rarr r, pcell (x + 8) 0 0 0, pcell (x + 8) 0 0 0, pcell (x + 8) 0 0 0, pcell (x + 8) 0 0 0, pcell (x + 8) 0 0 0, pcell (x + 8) 0 0 0, pcell (x + 8) 0 0 0][i]?) (kr : Nat → Nat) (T S C : Nat → Int) : RailAt (bld h0 (big x) t) r 0 0 0 kr T S C := by
  have hq : ∀ i, (bld h0 (big x) t).1 (r + i) = (big x)[j + i]? := fun i => by
    rw [hr, hx, Nat.add_assoc, bld_at]
  refine ⟨(hq 0).trans (e 0 (by omega)), (hq 1).trans (e 1 (by omega)), fun i hi => absurd hi (by omega), fun i hi => ⟨x + 8, 0, 0, 0, ?_⟩, by omega⟩
  rw [Nat.add_assoc, hq (2 + i), e (2 + i) (by omega)]
  rcases (show i = 0 ∨ i = 1 ∨ i = 2 ∨ i = 3 ∨ i = 4 ∨ i = 5 ∨ i = 6 by omega) with rfl | rfl | rfl | rfl | rfl | rfl | rfl <;> rfl
theorem i9 {P : Nat → Prop} (h0 : P 0) (h1 : P 1) (h2 : P 2) (h3 : P 3) (h4 : P 4) (h5 : P 5) (h6 : P 6) (h7 : P 7) (h8 : P 8) : ∀ i, i < 9 → P i := by
  intro i hi
  rcases (show i = 0 ∨ i = 1 ∨ i = 2 ∨ i = 3 ∨ i = 4 ∨ i = 5 ∨ i = 6 ∨ i = 7 ∨ i = 8 by omega) with rfl | rfl | rfl | rfl | rfl | rfl | rfl | rfl | rfl <;> assumption
theorem IN_start {h0 : Hp} {x t : Nat} (hx : x = h0.2.1) : IN (bld h0 (big x) t) x := by
  have hq : ∀ i, (bld h0 (big x) t).1 (x + i) = (big x)[i]? := fun i => by rw [hx, bld_at]
  have hR : ∀ r j, r = x + j → (j = 10 ∨ j = 19 ∨ j = 28 ∨ j = 37 ∨ j = 46) → RailAt (bld h0 (big x) t) r 0 0 0 (fun _ => 0) (fun _ => 0) (fun _ => 0) (fun _ => 0) := by
    intro r j hr hj
    refine big_rail hx r j hr ?_ _ _ _ _
    subst hr
    rcases hj with rfl | rfl | rfl | rfl | rfl <;> exact i9 rfl rfl rfl rfl rfl rfl rfl rfl rfl
  refine ⟨(0, 0, fun _ => 0, fun _ => 0, fun _ => 0, fun _ => 0, fun _ => 0), (0, 0, fun _ => 0, fun _ => 0, fun _ => 0, fun _ => 0, fun _ => 0), 0, fun _ => 0, fun _ => 0, fun _ => 0, fun _ => 0, fun _ => [], ?_, ?_, ?_, ?_⟩
  · exact ⟨⟨Nat.zero_le _, fun i hi => absurd hi (Nat.not_lt_zero _), fun i hi => absurd hi (Nat.not_lt_zero _), by decide, by decide⟩, fun z => absurd z (by decide), Or.inl rfl⟩
  · refine ⟨⟨⟨0, hq 0⟩, hq 1, ⟨_, hq 2⟩, ⟨_, hq 3⟩, ⟨_, hq 4⟩, ⟨_, hq 5⟩, (hR _ 28 rfl (by omega)).any, (hR _ 37 rfl (by omega)).any, (hR _ 46 rfl (by omega)).any, ⟨_, _, _, _, hq 55⟩, ⟨_, _, _, _, hq 56⟩⟩, ⟨fun _ => 0, 0, hR _ 10 rfl (by omega), fun i hi => absurd hi (Nat.not_lt_zero _), fun i hi => absurd hi (Nat.not_lt_zero _)⟩, ⟨fun z => absurd z (by decide), (hR _ 19 rfl (by omega)).any⟩, ⟨fun _ => 0, hq 6, hq 7, fun d hd => ⟨Or.inl rfl, fun z => absurd (show (0 : Int) = 1 from z) (by decide), fun z => absurd (show (0 : Int) = 2 from z) (by decide), fun z => absurd rfl z⟩, fun d e _ _ _ z => absurd (show (0 : Int) = 2 from z) (by decide)⟩, fun q hqn => ?_, ?_⟩
    · have hqn : h0.2.1 + (big x).length ≤ q := hqn
      show (if q < h0.2.1 then h0.1 q else (big x)[q - h0.2.1]?) = none
      rw [if_neg (by omega), List.getElem?_eq_none (by omega)]
    · show x + 81 ≤ h0.2.1 + (big x).length
      rw [hx]
      exact Nat.le_refl _
  · refine ⟨fun _ _ => 0, ⟨fun _ => 0, fun _ _ => 0, .null, ?_, rfl, rfl, rfl, fun _ _ => rfl⟩, fun d hd => ⟨rfl, Or.inl rfl, fun z => absurd (show (0 : Int) = 1 from z) (by decide), fun z => absurd (show (0 : Int) = 2 from z) (by decide)⟩, fun z => absurd z (by decide)⟩
    exact ⟨hq 57, hq 58, hq 59, hq 60, hq 61, hq 62, hq 63, hq 64, hq 65, hq 66, hq 67, hq 68, hq 69, hq 70, hq 71, hq 72, hq 73, hq 74, hq 75, hq 76, hq 77, hq 78, hq 79⟩
  · exact ⟨0, hq 80⟩
theorem law_run {E : am_E} {d sc : Nat} {h0 : Hp} {xs : List Int} (w : WF h0) (hB : E.2 ≤ h0.2.1) (hx : ∀ z ∈ xs, -2147483648 ≤ z ∧ z ≤ 2147483647) (hl2 : xs.length ≤ 3072) (ha : h0.1 sc = some (20, ia xs)) (hT : OrT E) (hE : OrE E) : Ex E (d + 21) mL_law 0 [.ref sc, .retAddr 0, .retAddr 0, .retAddr 0, .retAddr 0, .retAddr 0, .retAddr 0, .retAddr 0] [] h0 (fun r h2 => r = some (.int (i32 1)) ∧ (h0.2.1 ≤ h2.2.1 ∧ h2.2.1 ≤ h0.2.1 + 300000 ∧ h0.2.2 ≤ h2.2.2 ∧ h2.2.2 ≤ h0.2.2 + 1700000)) := by
  obtain ⟨x, hxe⟩ : ∃ x, x = h0.2.1 := ⟨_, rfl⟩
  have hsc : sc < x := by rw [hxe]; exact w.lt ha
  have hr0 : x = h0.2.1 + ([] : List OC).length := hxe
  have hr1 : x + 57 = h0.2.1 + (([] : List OC) ++ z57 x).length := by rw [hxe]; rfl
  have hr2 : x + 80 = h0.2.1 + (([] : List OC) ++ z57 x ++ y23 (x + 57)).length := by rw [hxe]; rfl
  refine Ex_h (h2 := bld h0 (([] : List OC) ++ []) h0.2.2) (bld_0 w) ?_
  refine Ex_newB (a := x) (zs := [(11, [.null, .null, .int (i32 0), .null, .null, .null, .null, .null, .null, .null, .int (i32 0), .null, .null])]) (t2 := h0.2.2 + 13) hr0 dL_law_0 rfl rfl rfl rfl rfl rfl rfl ?_
  refine Ex_dup dL_law_3 rfl rfl ?_
  refine Ex_spec dL_law_4 rfl rfl rfl rfl rfl rfl rfl rfl (Ex_post (x11_init (d := d + 17) hxe hB) ?_)
  rintro _ _ ⟨rfl, rfl⟩
  refine Ex_astore_n (L2 := [_, _, _, _, _, _, _, _]) dL_law_7 rfl rfl rfl ?_
  refine Ex_h (h2 := bld h0 ((([] : List OC) ++ z57 x) ++ []) (h0.2.2 + 599)) rfl ?_
  refine Ex_newB (a := x + 57) (zs := [(12, [.int (i32 0), .null, .null, .null, .null, .null, .int (i32 0), .null, .null, .null, .null, .null, .null, .int (i32 0), .int (i32 0), .int (i32 0), .int (i32 0), .int (i32 0), .null, .null, .null, .null, .null, .int (i32 0), .int (i32 0), .int (i32 0), .null, .null, .null, .null, .null, .int (i32 0), .int (i32 0), .int (i32 0), .null, .int (i32 0), .null])]) (t2 := h0.2.2 + 636) hr1 dL_law_8 rfl rfl rfl rfl rfl rfl rfl ?_
  refine Ex_dup dL_law_11 rfl rfl ?_
  refine Ex_spec dL_law_12 rfl rfl rfl rfl rfl rfl rfl rfl (Ex_post (x12_init (d := d + 19) hr1 hB) ?_)
  rintro _ _ ⟨rfl, rfl⟩
  refine Ex_astore_n (L2 := [_, _, _, _, _, _, _, _]) dL_law_15 rfl rfl rfl ?_
  refine Ex_iconst dL_law_16 rfl ?_
  refine Ex_h (h2 := bld h0 ((([] : List OC) ++ z57 x ++ y23 (x + 57)) ++ []) (h0.2.2 + 2230)) (by rw [List.append_nil]) ?_
  refine Ex_newLB (N := 1) (a := x + 80) (zs := [(21, [.long (i64 0)])]) (t2 := h0.2.2 + 2231) hr2 dL_law_17 rfl (by omega) rfl rfl rfl rfl rfl ?_
  refine Ex_astore_n (L2 := [_, _, _, _, _, _, _, _]) dL_law_19 rfl rfl rfl ?_
  refine Ex_iconst dL_law_20 rfl ?_
  refine Ex_istore (L2 := [_, _, _, _, _, _, _, _]) dL_law_21 rfl rfl rfl ?_
  refine Ex_h (h2 := bld h0 (big x) (h0.2.2 + 2231)) rfl ?_
  refine Ex_post (lw_loop (d := d) (x := x) (by omega) hx (by omega) hsc hT hE (xs.length / 6) 0 _ _ _ _ (by omega) (by omega) ((bld_lt (by omega)).trans ha) (IN_start hxe)) ?_
  rintro r h2 ⟨rfl, g, -⟩
  have g1 : (bld h0 (big x) (h0.2.2 + 2231)).2.1 = h0.2.1 + 81 := rfl
  have g2 : (bld h0 (big x) (h0.2.2 + 2231)).2.2 = h0.2.2 + 2231 := rfl
  rw [g1, g2] at g
  exact ⟨rfl, by omega⟩
