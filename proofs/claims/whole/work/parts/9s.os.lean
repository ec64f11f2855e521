/-! the oracle's calls, as the law makes them (by hand) -/
section
variable {l : Launch} {D : am_D} {B d x y : Nat} {h : Hp} {hi : Int} {hw ck cf rs : Nat → Int} {rx : Nat → List Int} {sa : Nat → Nat} {p0 q0 : Int}
theorem f_ne {f : Int} (h1 : 0 ≤ f ∧ f ≤ 9) (h2 : ¬ f = 0) : ¬ i32 f = 0 := fun e => h2 ((i32_eq (a := f) (b := 0) ⟨by omega, by omega⟩).mp (e.trans rfl))
theorem ts_all (hfl : l.stackTraces = false) (Zs : Scr h x hi) (V : Shv h x y hw ck cf rs rx sa) (hp : -2147483648 ≤ p0 ∧ p0 ≤ 2147483647) :
    if ((0 ≤ p0 ∧ p0 ≤ 7) ∧ hw p0.toNat = 1) ∧ tss (ck p0.toNat) (cf p0.toNat) ≠ -15 then
      vx_Met l yX11_toss (am_wsH mX11_toss hhT) (rmX (d + 12) 1 6) (ax_Pc D B [.ref x, .int (i32 p0)] h) (am_Qc D B (some (.int (i32 (an_toss hw ck cf p0)))) (hp1 h)) X0 1 6 (fun q => B ≤ q)
    else vx_Met l yX11_toss (am_wsH mX11_toss hhT) (rmX (d + 12) 0 0) (ax_Pc D B [.ref x, .int (i32 p0)] h) (am_Qc D B (some (.int (i32 (an_toss hw ck cf p0)))) h) X0 0 0 (fun q => B ≤ q) := by
  by_cases hq : (0 ≤ p0 ∧ p0 ≤ 7) ∧ hw p0.toNat = 1
  rotate_left
  · rw [if_neg (fun z => hq z.1), show an_toss hw ck cf p0 = why hw p0 from if_neg hq]
    exact ts_none Zs V hp hq
  rw [show an_toss hw ck cf p0 = tss (ck p0.toNat) (cf p0.toNat) from if_pos hq]
  obtain ⟨⟨k1, k2, k3, k4⟩, hya⟩ := V.kind hq
  by_cases h0 : cf p0.toNat = 0
  · have et : tss (ck p0.toNat) (cf p0.toNat) = -15 := if_pos (by omega)
    rw [if_neg (fun z => z.2 et), et]
    have hz : i32 (cf p0.toNat) = 0 := by rw [h0]; rfl
    rcases (show ck p0.toNat = 0 ∨ ck p0.toNat = 1 ∨ ck p0.toNat = 2 ∨ ck p0.toNat = 3 ∨ ck p0.toNat = 4 ∨ ck p0.toNat = 5 ∨ ck p0.toNat = 6 ∨ ck p0.toNat = 7 by omega) with hk | hk | hk | hk | hk | hk | hk | hk
    · exact ts_quiet Zs V hp hq tw_1 (by rw [hk]; rfl) (f1_ret k1 (by rw [hk]; rfl) rfl hz)
    · exact ts_quiet Zs V hp hq tw_0 (by rw [hk]; rfl) (f0_ret k1 (by rw [hk]; rfl) rfl hz)
    · exact ts_quiet Zs V hp hq tw_9 (by rw [hk]; rfl) f9_ret
    · exact ts_quiet Zs V hp hq tw_10 (by rw [hk]; rfl) f10_ret
    · exact ts_quiet Zs V hp hq tw_6 (by rw [hk]; rfl) (f0_ret k1 (by rw [hk]; rfl) rfl hz)
    · exact ts_quiet Zs V hp hq tw_4 (by rw [hk]; rfl) (f0_ret k1 (by rw [hk]; rfl) rfl hz)
    · exact ts_quiet Zs V hp hq tw_2 (by rw [hk]; rfl) f9_ret
    · exact ts_quiet Zs V hp hq tw_3 (by rw [hk]; rfl) (f3_ret k1 (by rw [hk]; rfl) rfl hz)
  have hz : ¬ i32 (cf p0.toNat) = 0 := f_ne k4 h0
  rcases (show ck p0.toNat = 0 ∨ ck p0.toNat = 1 ∨ ck p0.toNat = 2 ∨ ck p0.toNat = 3 ∨ ck p0.toNat = 4 ∨ ck p0.toNat = 5 ∨ ck p0.toNat = 6 ∨ ck p0.toNat = 7 by omega) with hk | hk | hk | hk | hk | hk | hk | hk
  · have et : tss (ck p0.toNat) (cf p0.toNat) = cf p0.toNat := by unfold tss; rw [if_neg (by omega), if_pos hk]
    rw [if_pos ⟨hq, by rw [et]; omega⟩, et]
    exact ts_is Zs V hp hq tw_1 (by rw [hk]; rfl) (f1_throw hfl (by omega) k1 (by rw [hk]; rfl) rfl hz)
  · have et : tss (ck p0.toNat) (cf p0.toNat) = 100 + cf p0.toNat := by unfold tss; rw [if_neg (by omega), if_neg (by omega), if_neg (by omega)]
    rw [if_pos ⟨hq, by rw [et]; omega⟩, et]
    exact ts_uo Zs V hp hq tw_0 (by rw [hk]; rfl) (f0_throw hfl (by omega) k1 (by rw [hk]; rfl) rfl hz)
  · have et : tss (ck p0.toNat) (cf p0.toNat) = -15 := if_pos (by omega)
    rw [if_neg (fun z => z.2 et), et]
    exact ts_quiet Zs V hp hq tw_9 (by rw [hk]; rfl) f9_ret
  · have et : tss (ck p0.toNat) (cf p0.toNat) = -15 := if_pos (by omega)
    rw [if_neg (fun z => z.2 et), et]
    exact ts_quiet Zs V hp hq tw_10 (by rw [hk]; rfl) f10_ret
  · have et : tss (ck p0.toNat) (cf p0.toNat) = 100 + cf p0.toNat := by unfold tss; rw [if_neg (by omega), if_neg (by omega), if_neg (by omega)]
    rw [if_pos ⟨hq, by rw [et]; omega⟩, et]
    exact ts_uo Zs V hp hq tw_6 (by rw [hk]; rfl) (f0_throw hfl (by omega) k1 (by rw [hk]; rfl) rfl hz)
  · have et : tss (ck p0.toNat) (cf p0.toNat) = 100 + cf p0.toNat := by unfold tss; rw [if_neg (by omega), if_neg (by omega), if_neg (by omega)]
    rw [if_pos ⟨hq, by rw [et]; omega⟩, et]
    exact ts_uo Zs V hp hq tw_4 (by rw [hk]; rfl) (f0_throw hfl (by omega) k1 (by rw [hk]; rfl) rfl hz)
  · have et : tss (ck p0.toNat) (cf p0.toNat) = -15 := if_pos (by omega)
    rw [if_neg (fun z => z.2 et), et]
    exact ts_quiet Zs V hp hq tw_2 (by rw [hk]; rfl) f9_ret
  · have et : tss (ck p0.toNat) (cf p0.toNat) = 200 + sp_price (ck p0.toNat) (cf p0.toNat) := by unfold tss; rw [if_neg (by omega), if_neg (by omega), if_pos hk]
    rw [if_pos ⟨hq, by rw [et]; have : sp_price (ck p0.toNat) (cf p0.toNat) ≥ 0 := (by rw [hk]; unfold sp_price; repeat' split
                                                                                       all_goals omega); omega⟩, et]
    exact ts_ia Zs V hp hq tw_3 (by rw [hk]; rfl) (f3_throw hfl (by omega) k1 (by rw [hk]; rfl) rfl hz)
theorem le_all (hfl : l.stackTraces = false) (Zs : Scr h x hi) (V : Shv h x y hw ck cf rs rx sa) (hp : -2147483648 ≤ p0 ∧ p0 ≤ 2147483647) (hqr : -2147483648 ≤ q0 ∧ q0 ≤ 2147483647) {o : Nat} {z : Int64} (ho : h.1 o = some (21, [.long z])) (hBo : B ≤ o) :
    if el_t hw rx p0 q0 = 0 then
      vx_Met l yL_element (am_wsH mL_element hhL) (rmX (d + 12 + 1) 0 0) (ax_Pc D B [.ref x, .int (i32 p0), .int (i32 q0), .ref o] h) (am_Qc D B (some (.int (i32 (el_t hw rx p0 q0)))) (am_put h o (21, [.long (i64 (el_v hw rx p0 q0))]))) X0 0 0 (fun q => B ≤ q)
    else vx_Met l yL_element (am_wsH mL_element hhL) (rmX (d + 12 + 1) 1 6) (ax_Pc D B [.ref x, .int (i32 p0), .int (i32 q0), .ref o] h) (am_Qc D B (some (.int (i32 (el_t hw rx p0 q0)))) (hp1 h)) X0 1 6 (fun q => B ≤ q) := by
  obtain ⟨⟨bs, z0⟩, -⟩ := id Zs
  by_cases hq : 0 ≤ p0 ∧ p0 ≤ 7
  rotate_left
  · have et : el_t hw rx p0 q0 = 1 := if_neg hq
    rw [et, if_neg (by omega)]
    exact le_1 z0 (el_1 hfl hp hq)
  by_cases h2 : hw p0.toNat = 2
  rotate_left
  · have et : el_t hw rx p0 q0 = 2 := (if_pos hq).trans (if_neg (fun w => h2 w.1))
    rw [et, if_neg (by omega)]
    exact le_2 z0 (el_2a hfl Zs V hp hq h2)
  by_cases h3 : 0 ≤ q0 ∧ q0 < ((rx p0.toNat).length : Int)
  rotate_left
  · have et : el_t hw rx p0 q0 = 2 := (if_pos hq).trans (if_neg (fun w => h3 w.2))
    rw [et, if_neg (by omega)]
    exact le_2 z0 (el_2b hfl Zs V hp hqr hq h2 h3)
  have et : el_t hw rx p0 q0 = 0 := (if_pos hq).trans (if_pos ⟨h2, h3⟩)
  have ev : el_v hw rx p0 q0 = gx (rx p0.toNat) q0 := (if_pos ⟨hq, h2, h3⟩).trans (if_pos h3).symm
  rw [et, ev, if_pos rfl]
  exact le_0 z0 ho hBo (el_0 Zs V hp hqr hq h2 h3)
end
theorem lw_to : lwAll [.methodLink RL 182 yX11_toss, .instanceMethod yX11_toss, .selects RX11 yX11_toss yX11_toss, .initialized RX11, .codeWith yX11_toss cX11_toss 4 (some .int) hhT, .methodLink RL 164 yL_element, .static yL_element, .initialized RL, .codeWith yL_element cL_element 5 (some .int) hhL] = true := by decide +kernel
section
variable {p : Program} {l : Launch} {e : Env} {R : Room} {s : State} {m : MethodId} {args : Array Value} {below : List Frame} {meth : Method} {c : Code} {D : am_D} {B : Nat} {cells slots pc d mc ms : Nat} {L rest : List Value} {h h1 : Hp} {H : Heap} {locs : List Loc} {ls : Array Slot} {r : Option Value}
theorem toss_run {x : Nat} {fs : List Value} {z : Value} (X : am_Cx D p s m args meth c mL_law) (Z : Zx B s) (hb : h.1 x = some (11, fs)) (hdg : decode mL_law.2.2.1 pc = .ok (.invokevirtual 182, 3))
    (hM : vx_Met l yX11_toss (am_wsH mX11_toss hhT) (rmX d mc ms) (ax_Pc D B [.ref x, z] h) (am_Qc D B r h1) X0 mc ms (fun q => B ≤ q))
    (hcat : am_cats rest ≤ 8) (hfr : d + 1 ≤ R.frames) (hlo : 100 * (d + 1) ≤ R.locals) (hcl : cells + mc ≤ R.cells) (hsl : slots + ms ≤ R.slots) (hP : am_P D B h H) (hL : am_lv ls mL_law.2.2.2.1 L) (hF : ∀ q ∈ locs, B ≤ q.base) :
    va_Run p l e R s m args below meth c H locs cells slots mc ms (F0 m pc ls ([.ref x, z].reverse ++ rest)) rest (am_Qc D B r h1 [.ref x, z].toArray) (fun q => B ≤ q) := by
  obtain ⟨hx, hbc, hml, hret, hlocks, hown, hts, hK, hnm, hM16⟩ := X
  intro T hT XS
  have hq := st_kept XS hF
  rw [hT] at hq
  have hfix : CallFix p m c mL_law.2.2.1 mL_law.2.2.2.1 s args lw_good (am_R mL_law.1) := ⟨hx, hbc, hml, hown, hts⟩
  have hpre : ∀ U : State, U.heap = H → s.WarmedH U.vm → ax_Pc D B [.ref x, z] h [.ref x, z].toArray U := fun U hU hW => ⟨rfl, ⟨by rw [hU]; exact hP, hK.moved hW⟩, Z.go hW (fun a h1 h2 => by rw [hU]; exact hq a h1 h2)⟩
  have hroom : 2 * (F0 m pc ls ([.ref x, z].reverse ++ rest)).monitorRoom + (rest.map fun v => v.category).sum ≤ 8 := lv_room hcat
  have hw := lwAll_use lw_to
  have hr := vx_runVX (e := e) (below := below) (meth := meth) (As := [z]) (b := x) (C := RX11) (rest := rest) (g := F0 m pc ls ([.ref x, z].reverse ++ rest)) (H := H) (locs := locs) (cells := cells) (slots := slots) hfix hM (vx_cwVW 1 hts (am_goodIn (fun w q => by
      simp only [wsV, am_wsH, List.cons_append, List.nil_append, List.mem_cons] at q
      rcases q with rfl | rfl | rfl | rfl | rfl | q
      · exact hw (.methodLink RL 182 yX11_toss) (by simp)
      · exact hw (.instanceMethod yX11_toss) (by simp)
      · exact hw (.selects RX11 yX11_toss yX11_toss) (by simp)
      · exact hw (.initialized RX11) (by simp)
      · exact hw (.codeWith yX11_toss cX11_toss 4 (some .int) hhT) (by simp)
      · exact q)) rfl rfl rfl ⟨rfl, by decide, by decide, by decide +kernel⟩ ⟨hfr, by show 8 + (4 + 11) + 100 * d ≤ R.locals; omega⟩) ⟨ax_blind, am_recv hP hK hb rfl, hpre⟩ rfl rfl hL.1 rfl hroom hdg ⟨hcl, hsl⟩
  rcases hr T hT XS with q | ⟨q, st0, t, T2, L2, E2, ce, -, -, -, -, -, hx, -⟩
  · exact q
  · exact hx.elim
theorem elem_run {v0 v1 v2 v3 : Value} (X : am_Cx D p s m args meth c mL_law) (Z : Zx B s) (hdg : decode mL_law.2.2.1 pc = .ok (.invokestatic 164, 3))
    (hM : vx_Met l yL_element (am_wsH mL_element hhL) (rmX d mc ms) (ax_Pc D B [v0, v1, v2, v3] h) (am_Qc D B r h1) X0 mc ms (fun q => B ≤ q))
    (hcat : am_cats rest ≤ 8) (hfr : d + 1 ≤ R.frames) (hlo : 100 * (d + 1) ≤ R.locals) (hcl : cells + mc ≤ R.cells) (hsl : slots + ms ≤ R.slots) (hP : am_P D B h H) (hL : am_lv ls mL_law.2.2.2.1 L) (hF : ∀ q ∈ locs, B ≤ q.base) :
    va_Run p l e R s m args below meth c H locs cells slots mc ms (F0 m pc ls ([v0, v1, v2, v3].reverse ++ rest)) rest (am_Qc D B r h1 [v0, v1, v2, v3].toArray) (fun q => B ≤ q) := by
  obtain ⟨hx, hbc, hml, hret, hlocks, hown, hts, hK, hnm, hM16⟩ := X
  intro T hT XS
  have hq := st_kept XS hF
  rw [hT] at hq
  have hfix : CallFix p m c mL_law.2.2.1 mL_law.2.2.2.1 s args lw_good (am_R mL_law.1) := ⟨hx, hbc, hml, hown, hts⟩
  have hpre : ∀ U : State, U.heap = H → s.WarmedH U.vm → ax_Pc D B [v0, v1, v2, v3] h [v0, v1, v2, v3].toArray U := fun U hU hW => ⟨rfl, ⟨by rw [hU]; exact hP, hK.moved hW⟩, Z.go hW (fun a h1 h2 => by rw [hU]; exact hq a h1 h2)⟩
  have hroom : 2 * (F0 m pc ls ([v0, v1, v2, v3].reverse ++ rest)).monitorRoom + (rest.map fun v => v.category).sum ≤ 8 := lv_room hcat
  have hw := lwAll_use lw_to
  have hr := vx_runSX (e := e) (below := below) (meth := meth) (As := [v0, v1, v2, v3]) (rest := rest) (g := F0 m pc ls ([v0, v1, v2, v3].reverse ++ rest)) (H := H) (locs := locs) (cells := cells) (slots := slots) hfix hM (vx_cwSW 4 hts (am_goodIn (fun w q => by
      simp only [va_wsS, am_wsH, List.cons_append, List.nil_append, List.mem_cons] at q
      rcases q with rfl | rfl | rfl | rfl | q
      · exact hw (.methodLink RL 164 yL_element) (by simp)
      · exact hw (.static yL_element) (by simp)
      · exact hw (.initialized RL) (by simp)
      · exact hw (.codeWith yL_element cL_element 5 (some .int) hhL) (by simp)
      · exact q)) rfl rfl rfl ⟨by decide, by decide, by decide +kernel⟩ ⟨hfr, by show 8 + (5 + 11) + 100 * d ≤ R.locals; omega⟩) ⟨ax_blind, hpre⟩ rfl rfl hL.1 rfl hroom hdg ⟨hcl, hsl⟩
  rcases hr T hT XS with q | ⟨q, st0, t, T2, L2, E2, ce, -, -, -, -, -, hx, -⟩
  · exact q
  · exact hx.elim
end
def o13 (e : Nat × Nat × Nat × Nat × List Nat × Mth × List Nat) : Bool := (decide (e.2.2.1 ≠ 10) || (decide (e.1 = 0) && decide (e.2.1 = 182))) && (decide (e.2.2.1 ≠ 11) || (decide (e.1 = 2) && decide (e.2.1 = 164)))
theorem o13_ok : (am_cl 13).all o13 = true := by decide +kernel
theorem inv_o13 {op i mode n : Nat} {ts : List Nat} {C : Mth} (h : am_inv 13 op i = some (mode, n, ts, C)) : (mode = 10 → op = 0 ∧ i = 182) ∧ (mode = 11 → op = 2 ∧ i = 164) := by
  unfold am_inv at h
  rw [Option.map_eq_some_iff] at h
  obtain ⟨q, hq, hv⟩ := h
  have hck := List.all_eq_true.mp o13_ok q (List.mem_of_find?_eq_some hq)
  have hfd := List.find?_some hq
  obtain ⟨q1, q2, q3, q4, q5, q6, q7⟩ := q
  cases hv
  simp only [Bool.and_eq_true, beq_iff_eq] at hfd
  simp only [o13, Bool.and_eq_true, Bool.or_eq_true, decide_eq_true_eq] at hck
  obtain ⟨rfl, rfl⟩ := hfd
  obtain ⟨a, b⟩ := hck
  refine ⟨fun z => ?_, fun z => ?_⟩
  · rcases a with a | a
    · exact absurd z a
    · exact a
  · rcases b with b | b
    · exact absurd z b
    · exact b
theorem op_0 {ins : Instr} {i : Nat} (h : am_op ins = some (0, i)) : ins = .invokevirtual i := by
  cases ins <;> first | (cases h; done) | (injection h with h; injection h with h1 h2; first | (cases h1; done) | rw [h2])
theorem op_2 {ins : Instr} {i : Nat} (h : am_op ins = some (2, i)) : ins = .invokestatic i := by
  cases ins <;> first | (cases h; done) | (injection h with h; injection h with h1 h2; first | (cases h1; done) | rw [h2])
theorem orS {l : Launch} {D : am_D} {B : Nat} {s : State} {O : Nat → List Value → Hp → Option (Option Value × Hp)} (hfl : l.stackTraces = false) (Z : Zx B s) (hO : ∀ (mode : Nat) (vs : List Value) (h : Hp) (r : Option Value) (h1 : Hp), O mode vs h = some (r, h1) → OG B mode vs h r h1) : am_OrS l D O B s := by
  intro mode vs h r h1 eO
  rcases hO _ _ _ _ _ eO with ⟨rfl, x, z, X, XI, hi, hw, ck, cf, rs, rx, rfl, hB, I, rfl, hh⟩ | ⟨rfl, x, z, w, v0, X, XI, hi, hw, ck, cf, rs, rx, rfl, hB, I, hv0, rfl, hh⟩
  · obtain ⟨Zs, -, -, ⟨sa, V⟩, -⟩ := I
    obtain ⟨⟨bs, z0⟩, -⟩ := id Zs
    refine ⟨?_, ?_⟩
    · split at hh
      · rw [hh]; exact ⟨Nat.le_add_right _ _, Nat.le_add_right _ _⟩
      · rw [hh]; exact ⟨Nat.le_refl _, Nat.le_refl _⟩
    intro p e R m args below meth c C pc op i n d cells slots ts ins rest L H locs ls h9 h20 X hdg hop hinv hlen hrc hfr hlo hcl hsl hcat hP hL hF
    obtain ⟨rfl, rfl⟩ := (inv_o13 hinv).1 rfl
    obtain rfl := op_0 hop
    obtain ⟨d, rfl⟩ : ∃ d2, d = d2 + 12 := ⟨d - 12, by omega⟩
    have hM := ts_all (D := D) (B := B) (d := d) hfl Zs V (i32_rng z)
    rw [← i32_of z] at hM
    split at hh
    · rename_i cc
      subst hh
      rw [if_pos cc] at hM
      rw [show (hp1 h).2.1 - h.2.1 = 1 by show h.2.1 + 1 - h.2.1 = 1; omega, show (hp1 h).2.2 - h.2.2 = 6 by show h.2.2 + 6 - h.2.2 = 6; omega] at *
      exact toss_run X Z z0 hdg hM hcat hfr hlo hcl hsl hP hL hF
    · rename_i cc
      subst hh
      rw [if_neg cc] at hM
      rw [Nat.sub_self, Nat.sub_self] at *
      exact toss_run X Z z0 hdg hM hcat hfr hlo hcl hsl hP hL hF
  · obtain ⟨Zs, -, -, ⟨sa, V⟩, -⟩ := I
    refine ⟨?_, ?_⟩
    · split at hh
      · rw [hh]; exact ⟨Nat.le_refl _, Nat.le_refl _⟩
      · rw [hh]; exact ⟨Nat.le_add_right _ _, Nat.le_add_right _ _⟩
    intro p e R m args below meth c C pc op i n d cells slots ts ins rest L H locs ls h9 h20 X hdg hop hinv hlen hrc hfr hlo hcl hsl hcat hP hL hF
    obtain ⟨rfl, rfl⟩ := (inv_o13 hinv).2 rfl
    obtain rfl := op_2 hop
    obtain ⟨d, rfl⟩ : ∃ d2, d = d2 + 12 + 1 := ⟨d - 13, by omega⟩
    have hM := le_all (D := D) (B := B) (d := d) hfl Zs V (i32_rng z) (i32_rng w) hv0 (by omega)
    rw [← i32_of z, ← i32_of w] at hM
    split at hh
    · rename_i cc
      subst hh
      rw [if_pos cc] at hM
      rw [show (am_put h (x + 80) (21, [.long (i64 (el_v hw rx z.toInt w.toInt))])).2.1 - h.2.1 = 0 from Nat.sub_self _, show (am_put h (x + 80) (21, [.long (i64 (el_v hw rx z.toInt w.toInt))])).2.2 - h.2.2 = 0 from Nat.sub_self _] at *
      exact elem_run X Z hdg hM hcat hfr hlo hcl hsl hP hL hF
    · rename_i cc
      subst hh
      rw [if_neg cc] at hM
      rw [show (hp1 h).2.1 - h.2.1 = 1 by show h.2.1 + 1 - h.2.1 = 1; omega, show (hp1 h).2.2 - h.2.2 = 6 by show h.2.2 + 6 - h.2.2 = 6; omega] at *
      exact elem_run X Z hdg hM hcat hfr hlo hcl hsl hP hL hF
