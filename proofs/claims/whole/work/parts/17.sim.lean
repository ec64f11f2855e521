/-! a call of the small machine is the machine's; so is a whole run -/
theorem am_inv_ck {o op i mode n : Nat} {ts : List Nat} {C : Mth} (h : am_inv o op i = some (mode, n, ts, C)) : ∃ ps, am_cck o (op, i, mode, n, ts, C, ps) = true := by
  unfold am_inv at h
  rw [Option.map_eq_some_iff] at h
  obtain ⟨q, hq, hv⟩ := h
  have hck := List.all_eq_true.mp (am_cck_ok o) q (List.mem_of_find?_eq_some hq)
  have hf := List.find?_some hq
  rw [Bool.and_eq_true] at hf
  have h1 : q.1 = op := eq_of_beq hf.1
  have h2 : q.2.1 = i := eq_of_beq hf.2
  obtain ⟨q1, q2, q3, q4, q5, q6, q7⟩ := q
  cases hv
  cases h1
  cases h2
  exact ⟨q7, hck⟩
theorem am_isI_all {fs : List Value} (h : fs.all am_isI = true) {k : Nat} (hk : k < fs.length) : ∃ x, fs[k]? = some (.int x) := by
  have h1 := List.all_eq_true.mp h fs[k] (List.getElem_mem hk)
  rw [List.getElem?_eq_getElem hk]
  cases hv : fs[k] with
  | int x => exact ⟨x, rfl⟩
  | _ => rw [hv] at h1; cases h1
theorem am_cpy_len {f g : List Value} {sp dp n : Nat} (h1 : sp + n ≤ f.length) (h2 : dp + n ≤ g.length) : (am_cpy f g sp dp n).length = g.length := by
  simp only [am_cpy, List.length_append, List.length_take, List.length_drop]
  omega
theorem am_cpy_get {f g : List Value} {sp dp n j : Nat} (h1 : sp + n ≤ f.length) (h2 : dp + n ≤ g.length) (hj : j < g.length) : vp_V (am_cpy f g sp dp n) j = va_cpy (vp_V f) (vp_V g) sp dp n j := by
  unfold vp_V va_cpy am_cpy
  simp only [List.getD_eq_getElem?_getD]
  by_cases c1 : j < dp
  · rw [List.getElem?_append_left (by rw [List.length_take]; omega), List.getElem?_take, if_pos c1, if_neg (by omega)]
  · rw [List.getElem?_append_right (by rw [List.length_take]; omega), List.length_take, Nat.min_eq_left (by omega)]
    by_cases c2 : j < dp + n
    · rw [List.getElem?_append_left (by rw [List.length_take, List.length_drop]; omega), List.getElem?_take, if_pos (by omega), List.getElem?_drop, if_pos ⟨by omega, c2⟩]
    · rw [List.getElem?_append_right (by rw [List.length_take, List.length_drop]; omega), List.length_take, List.length_drop, List.getElem?_drop, if_neg (by omega)]
      congr 2
      omega
section SIM
variable {p : Program} {l : Launch} {e : Env} {R : Room} {s : State} {m : MethodId} {args : Array Value} {below : List Frame} {meth : Method} {c : Code} {Q : State → Prop} {D : am_D} {B : Nat} {M : Mth} {cells slots pc : Nat} {L S : List Value} {h : Hp}
theorem am_copy_sim {H : Heap} {locs : List Loc} {ls : Array Slot} {i a0 a : Nat} {f g rest : List Value} {sp dp n : Int32} (X : am_Cx D p s m args meth c M) (hdg : decode M.2.2.1 pc = .ok (.invokestatic i, 3)) (hlink : (Cond.methodLink (am_R M.1) i arraycopyName).before args s = true) (hnat : (Cond.native arraycopyName).before args s = true) (hstat : (Cond.static arraycopyName).before args s = true) (hini : (Cond.initialized "java/lang/System").before args s = true)
    (ha0 : h.1 a0 = some (20, f)) (ha : h.1 a = some (20, g)) (h1 : ¬ sp < 0) (h2 : ¬ dp < 0) (h3 : ¬ n < 0) (h4 : sp.toNatClampNeg + n.toNatClampNeg ≤ f.length) (h5 : dp.toNatClampNeg + n.toNatClampNeg ≤ g.length) (hf : f.all am_isI = true) (hBa : B ≤ a) (hfr : 1 ≤ R.frames) (hlo : 100 ≤ R.locals) (hcat : am_cats rest ≤ 8)
    (hP : am_P D B h H) (hL : am_lv ls M.2.2.2.1 L) (hF : ∀ q ∈ locs, B ≤ q.base)
    (k : am_V p l e R s m args below meth c Q D B M cells slots (pc + 3) L rest (am_put h a (20, am_cpy f g sp.toNatClampNeg dp.toNatClampNeg n.toNatClampNeg))) :
    W p l e R s m args below meth c H locs cells slots Q (F0 m pc ls (.int n :: .int dp :: .ref a :: .int sp :: .ref a0 :: rest)) := by
  obtain ⟨hx, hb, hml, hret, hlocks, hown, hts, hK, hnm, hM⟩ := X
  have nn : ∀ z : Int32, ¬ z < 0 → z.toInt = (z.toNatClampNeg : Int) := by
    intro z hz
    have hz0 : (0 : Int) ≤ z.toInt := by
      have := Int32.not_lt.mp hz
      simpa using Int32.le_iff_toInt_le.mp this
    show z.toInt = ((z.toInt.toNat : Nat) : Int)
    omega
  have hc1 : H[a]? = some (arrV (D.2.2 20) g.length (vp_V g)) := by
    rcases hP.2.2 a 20 g ha with ⟨q, g1, -⟩ | ⟨-, g2 | ⟨w1, -⟩⟩
    · exact absurd (am_lt13 g1) (by omega)
    · exact g2
    · exact absurd w1 (by omega)
  have hc0 : ∃ c0 : Cell, H[a0]? = some c0 ∧ c0.slots = (arrV (D.2.2 20) f.length (vp_V f)).slots ∧ c0.vm ≠ .unknown ∧ s.isArrayOf c0 .int := by
    rcases hP.2.2 a0 20 f ha0 with ⟨q, g1, -⟩ | ⟨-, g2 | ⟨w1, w2, cw, w3, w4, w5, w6, w7⟩⟩
    · exact absurd (am_lt13 g1) (by omega)
    · exact ⟨_, g2, rfl, (fun z => by cases z), (hK.2.1 20 (by omega) (by omega)).1 f.length (vp_V f)⟩
    · exact ⟨cw, w3, w5, w6, w7, by rw [w4]; exact (hK.2.2.1.2.2 f.length (vp_V f)).2⟩
  obtain ⟨c0, hc0, hs0, hn0, hv0, k0, hk0, cm0, hkk0⟩ := hc0
  intro T hT X
  obtain ⟨-, k1, hk1, cm1, hkk1⟩ := (hK.2.1 20 (by omega) (by omega)).1 g.length (vp_V g)
  obtain ⟨vm', X', step⟩ := X.arraycopy hx hown hlink hnat hstat hini (src := a0) (dst := a) (cs := c0) (cd := arrV (D.2.2 20) g.length (vp_V g)) (srcPos := sp) (destPos := dp) (n := n) (by rw [hT]; exact hc0) (by rw [hT]; exact hc1)
    hv0 (fun _ z => by cases z) hn0 (fun z => by cases z) hk0 hk1 hkk0 hkk1 (by simp [am_aty, refKind]) h1 h2 h3
    (by rw [hs0, nn sp h1, nn n h3, arrV_size]; omega)
    (by rw [nn dp h2, nn n h3, arrV_size]; omega)
    (fun vm₁ _ j hj => by
      obtain ⟨x, hxx⟩ := am_isI_all hf (k := sp.toNatClampNeg + j) (by omega)
      have e : c0.slots.getD (sp.toNatClampNeg + j) .null = .int x := by
        rw [hs0, Array.getD_eq_getD_getElem?, arrV_read _ _ (by omega), am_vV hxx]
        rfl
      refine ⟨?_, ?_⟩
      · rw [e]
        rfl
      · rw [e]
        exact trivial)
    (g := F0 m pc ls (.int n :: .int dp :: .ref a :: .int sp :: .ref a0 :: rest)) rfl (by rw [hml]; exact hL.1) (rest := rest) rfl (by rw [hb]; exact hdg) hfr (by
      have hw : nativeFrameWords "java/lang/System" "arraycopy" 5 + 11 ≤ 80 := by decide +kernel
      have hcat2 : (rest.map fun v => v.category).sum ≤ 8 := hcat
      show 2 * 0 + _ + _ ≤ _
      omega)
  have e0 : ∀ cd : Cell, copied c0 cd sp dp n = copied (arrV (D.2.2 20) f.length (vp_V f)) cd sp dp n := fun cd => by unfold copied Cell.stretch; rw [hs0]
  have e1 : copied c0 (arrV (D.2.2 20) g.length (vp_V g)) sp dp n = arrV (D.2.2 20) g.length (va_cpy (vp_V f) (vp_V g) sp.toNatClampNeg dp.toNatClampNeg n.toNatClampNeg) := (e0 _).trans <| va_copied (fun z => z) (D.2.2 20) (D.2.2 20) (vp_V f) (vp_V g) h4
  rw [e1] at X' step
  have hlt : a < H.size := (Array.getElem?_eq_some_iff.mp hc1).1
  have hheap : ((T.setVm vm').setCell a (arrV (D.2.2 20) g.length (va_cpy (vp_V f) (vp_V g) sp.toNatClampNeg dp.toNatClampNeg n.toNatClampNeg))).heap = H.setIfInBounds a (arrV (D.2.2 20) g.length (va_cpy (vp_V f) (vp_V g) sp.toNatClampNeg dp.toNatClampNeg n.toNatClampNeg)) := by rw [← hT]; rfl
  have oq : ∀ q : Nat, q ≠ a → (H.setIfInBounds a (arrV (D.2.2 20) g.length (va_cpy (vp_V f) (vp_V g) sp.toNatClampNeg dp.toNatClampNeg n.toNatClampNeg)))[q]? = H[q]? := fun q hq => by simp [Array.getElem?_setIfInBounds, Ne.symm hq]
  have hcell : (H.setIfInBounds a (arrV (D.2.2 20) g.length (va_cpy (vp_V f) (vp_V g) sp.toNatClampNeg dp.toNatClampNeg n.toNatClampNeg)))[a]? = some (arrV (D.2.2 20) (am_cpy f g sp.toNatClampNeg dp.toNatClampNeg n.toNatClampNeg).length (vp_V (am_cpy f g sp.toNatClampNeg dp.toNatClampNeg n.toNatClampNeg))) := by
    rw [am_cpy_len h4 h5]
    rw [show arrV (D.2.2 20) g.length (vp_V (am_cpy f g sp.toNatClampNeg dp.toNatClampNeg n.toNatClampNeg)) = arrV (D.2.2 20) g.length (va_cpy (vp_V f) (vp_V g) sp.toNatClampNeg dp.toNatClampNeg n.toNatClampNeg) from am_arr fun j hj => am_cpy_get h4 h5 hj]
    simp [Array.getElem?_setIfInBounds, hlt]
  obtain ⟨t, a1, b1⟩ := k _ _ ls (hP.put (by simp) oq (Or.inr ⟨by omega, Or.inl hcell⟩)) hL (fun q hq => by
      rcases List.mem_append.mp hq with z | z
      · exact hF q z
      · obtain ⟨y, -, hy⟩ := List.mem_map.mp z
        rw [← hy]
        exact hBa) _ hheap X'
  exact ⟨t, step t a1, b1⟩
theorem am_inv_sim {O : Nat → List Value → Hp → Option (Option Value × Hp)} {F d op i mode n : Nat} {ts : List Nat} {C : Mth} {ins : Instr} {r1 : Option Value} {h1 : Hp} (hS : am_Sim l D O B F) (hO : am_Or l D O B) (X : am_Cx D p s m args meth c M) (hdg : decode M.2.2.1 pc = .ok (ins, 3)) (hop : am_op ins = some (op, i)) (hinv : am_inv M.1 op i = some (mode, n, ts, C))
    (hc : n ≤ S.length ∧ am_cats (S.drop n) ≤ 8 ∧ am_rc mode ts (S.take n).reverse h = true ∧ (mode ≤ 4 → (am_sl (S.take n).reverse).length ≤ C.2.2.2.1) ∧ (9 < mode → 20 ≤ d))
    (hrun : (if mode ≤ 4 then am O B F d C 0 (am_loc (S.take n).reverse C.2.2.2.1) [] h else if mode ≤ 9 then am_bi B mode (S.take n).reverse h else O mode (S.take n).reverse h) = some (r1, h1))
    (hfr : d + 1 ≤ R.frames) (hlo : 100 * (d + 1) ≤ R.locals) (hcl : cells + (h1.2.1 - h.2.1) ≤ R.cells) (hsl : slots + (h1.2.2 - h.2.2) ≤ R.slots)
    (k : am_V p l e R s m args below meth c Q D B M (cells + (h1.2.1 - h.2.1)) (slots + (h1.2.2 - h.2.2)) (pc + 3) L (r1.toList ++ S.drop n) h1) : am_V p l e R s m args below meth c Q D B M cells slots pc L S h := by
  have hX := X
  obtain ⟨hx, hb, hml, hret, hlocks, hown, hts, hK, hnm, hM⟩ := X
  obtain ⟨hn, hcat, hrc, hslc, hd20⟩ := hc
  have hlen : (S.take n).reverse.length = n := by rw [List.length_reverse, List.length_take]; omega
  have hSS : S = (S.take n).reverse.reverse ++ S.drop n := am_take rfl
  intro H locs ls hP hL hF
  generalize hvs : (S.take n).reverse = vs at *
  generalize hrest : S.drop n = rest at *
  subst hSS
  obtain ⟨ps, hck⟩ := am_inv_ck hinv
  have hroom : 2 * (F0 m pc ls (vs.reverse ++ rest)).monitorRoom + (rest.map fun v => v.category).sum ≤ 8 := lv_room hcat
  have hfix : CallFix p m c M.2.2.1 M.2.2.2.1 s args lw_good (am_R M.1) := ⟨hx, hb, hml, hown, hts⟩
  have hpre : ∀ U : State, U.heap = H → s.WarmedH U.vm → am_Pc D B vs h vs.toArray U := fun U hU hW => ⟨rfl, by rw [hU]; exact hP, hK.moved hW⟩
  have hini : ∀ {w : Cond}, w ∈ lw_good → w.before args s = true := fun hw => hts _ hw
  unfold am_cck at hck
  dsimp only at hck
  split at hck
  · -- a static method
    simp only [Bool.and_eq_true, decide_eq_true_eq] at hck
    obtain ⟨⟨⟨⟨⟨⟨rfl, w1⟩, w2⟩, w3⟩, w4⟩, ⟨⟨⟨⟨hpl, hmh⟩, hcs⟩, h16⟩, hmx⟩⟩, hpar⟩ := hck
    have hins : ins = .invokestatic i := by cases ins <;> first | (cases hop; rfl) | cases hop
    subst hins
    rw [if_pos (by omega)] at hrun
    have hM1 := am_met hS hrun hpl hcs h16 (hslc (by omega))
    have w4' := am_w_in w4
    refine am_cont (va_runS hfix hM1 (va_cwS n hts (am_goodIn (fun w hw => ?_)) rfl rfl rfl ⟨hmh.1, hmh.2, hpar⟩ ⟨hfr, ?_⟩) ⟨am_blind, hpre⟩ rfl hlen hL.1 rfl hroom hdg ⟨hcl, hsl⟩) hL hF k
    · simp only [va_wsS, am_ws, List.cons_append, List.nil_append, List.mem_cons] at hw
      rcases hw with rfl | rfl | rfl | rfl | hw
      · exact am_w_in w1
      · exact am_w_in w2
      · exact am_w_in w3
      · exact w4'
      · exact hw
    · show 8 + (C.2.2.2.1 + 11) + 100 * d ≤ R.locals
      omega
  · -- a nest mate's static method
    simp only [Bool.and_eq_true, decide_eq_true_eq] at hck
    obtain ⟨⟨⟨⟨⟨⟨⟨rfl, hoi⟩, hyw⟩, w2⟩, w3⟩, w4⟩, ⟨⟨⟨⟨hpl, hmh⟩, hcs⟩, h16⟩, hmx⟩⟩, hpar⟩ := hck
    have hins : ins = .invokestatic i := by cases ins <;> first | (cases hop; rfl) | cases hop
    subst hins
    rw [if_pos (by omega)] at hrun
    have hM1 := am_met hS hrun hpl hcs h16 (hslc (by omega))
    have w4' := am_w_in w4
    have hnw : va_Nw (.methodLinkNest (am_R M.1) i C.2.1 RX11) s := by
      rw [hyw]
      rcases hoi with q | q
      · have q1 : M.1 = 8 := congrArg Prod.fst q
        have q2 : i = 25 := congrArg Prod.snd q
        rw [q1, q2]
        exact hK.2.2.1.1
      · have q1 : M.1 = 7 := congrArg Prod.fst q
        have q2 : i = 38 := congrArg Prod.snd q
        rw [q1, q2]
        exact hK.2.2.1.2.1
    refine am_cont (va_runSN hfix hM1 ⟨va_cnB n hts (am_goodIn (fun w hw => ?_)) rfl rfl rfl hnw (hini (am_w_in w3)) ⟨hmh.1, hmh.2, hpar⟩ ⟨hfr, ?_⟩, hini (am_w_in w2), trivial⟩ ⟨am_blind, hpre⟩ rfl hlen hL.1 rfl hroom hdg ⟨hcl, hsl⟩) hL hF k
    · rcases List.mem_cons.mp hw with rfl | hw
      · exact w4'
      · exact hw
    · show 8 + (C.2.2.2.1 + 11) + 100 * d ≤ R.locals
      omega
  · -- a method of the receiver's own class
    simp only [Bool.and_eq_true, decide_eq_true_eq] at hck
    obtain ⟨⟨⟨⟨⟨⟨⟨⟨rfl, w1⟩, w2⟩, w3⟩, w4⟩, w5⟩, ⟨⟨⟨⟨hpl, hmh⟩, hcs⟩, h16⟩, hmx⟩⟩, hpar⟩, hts2⟩ := hck
    have hins : ins = .invokevirtual i := by cases ins <;> first | (cases hop; rfl) | cases hop
    subst hins
    rw [if_pos (by omega)] at hrun
    have hM1 := am_met hS hrun hpl hcs h16 (hslc (by omega))
    have w5' := am_w_in w5
    simp only [am_rc] at hrc
    split at hrc
    rotate_left
    · cases hrc
    rename_i b As
    split at hrc
    rotate_left
    · cases hrc
    rename_i t fs hbt
    have ht := of_decide_eq_true (List.all_eq_true.mp hts2 t (List.contains_iff_mem.mp hrc))
    rw [Option.map_eq_some_iff] at ht
    obtain ⟨q, hq, hqn⟩ := ht
    have hrecv : ∃ cellB : Cell, H[b]? = some cellB ∧ cellB.vm.isStatics = false ∧ s.vm.findClass C.2.1.cls = some cellB.cls := by
      rcases hP.2.2 b t fs hbt with ⟨r', g1, g2, cell, q1, q2, q3, q4⟩ | ⟨g1, -⟩
      · have hrr : r' = q := Option.some.inj (g1.symm.trans hq)
        subst hrr
        refine ⟨cell, q1, by rw [q3]; rfl, ?_⟩
        rw [← hqn, q2]
        exact (hK.1 t _ hq).2.1
      · exact absurd (am_lt13 hq) (by omega)
    have hpar2 : (parseMethodDescriptor C.2.1.desc).map (fun d => d.parameters.length) = some As.length := by
      cases hz : parseMethodDescriptor C.2.1.desc with
      | none => rw [hz] at hpar; cases hpar
      | some sg =>
        rw [hz] at hpar
        simp only [Option.map_some, Option.some.injEq] at hpar ⊢
        simp only [List.length_cons] at hlen
        omega
    have hst : (Value.ref b :: As).reverse ++ rest = As.reverse ++ Value.ref b :: rest := by simp
    refine am_cont (va_runV (As := As) (b := b) hfix hM1 (cwV As.length hts (am_goodIn (fun w hw => ?_)) rfl rfl rfl ⟨rfl, hmh.1, hmh.2, hpar2⟩ ⟨hfr, ?_⟩) ⟨am_blind, hrecv, hpre⟩ rfl rfl hL.1 hst hroom hdg ⟨hcl, hsl⟩) hL hF k
    · simp only [wsV, am_ws, List.cons_append, List.nil_append, List.mem_cons] at hw
      rcases hw with rfl | rfl | rfl | rfl | rfl | hw
      · exact am_w_in w1
      · exact am_w_in w2
      · exact am_w_in w3
      · exact am_w_in w4
      · exact w5'
      · exact hw
    · show 8 + (C.2.2.2.1 + 11) + 100 * d ≤ R.locals
      omega
  · -- an inherited method
    rename_i p1 p2 p3 p4 p5 ps2
    simp only [Bool.and_eq_true, decide_eq_true_eq] at hck
    obtain ⟨⟨⟨⟨⟨⟨⟨⟨⟨rfl, w1⟩, w2⟩, w3⟩, w4⟩, w5⟩, ⟨⟨⟨⟨hpl, hmh⟩, hcs⟩, h16⟩, hmx⟩⟩, hpar⟩, hll⟩, hzz⟩ := hck
    have hins : ins = .invokevirtual i := by cases ins <;> first | (cases hop; rfl) | cases hop
    subst hins
    rw [if_pos (by omega)] at hrun
    have hM1 := am_met hS hrun hpl hcs h16 (hslc (by omega))
    have w5' := am_w_in w5
    simp only [am_rc] at hrc
    split at hrc
    rotate_left
    · cases hrc
    rename_i b As
    split at hrc
    rotate_left
    · cases hrc
    rename_i t fs hbt
    obtain ⟨j, hj⟩ := List.getElem?_of_mem (List.contains_iff_mem.mp hrc)
    have hjl : j < ts.length := (List.getElem?_eq_some_iff.mp hj).1
    have hzip : (ts.zip ps2)[j]? = some (t, ps2[j]'(hll ▸ hjl)) := by
      rw [List.getElem?_zip_eq_some]
      exact ⟨hj, List.getElem?_eq_getElem _⟩
    have hw6 := List.all_eq_true.mp hzz _ (List.mem_of_getElem? hzip)
    split at hw6
    rotate_left
    · cases hw6
    rename_i q hq
    have w6 := am_w_in hw6
    have hrecv : ∃ cellB : Cell, H[b]? = some cellB ∧ cellB.vm.isStatics = false ∧ s.vm.findClass q.1 = some cellB.cls := by
      rcases hP.2.2 b t fs hbt with ⟨r', g1, g2, cell, q1, q2, q3, q4⟩ | ⟨g1, -⟩
      · have hrr : r' = q := Option.some.inj (g1.symm.trans hq)
        subst hrr
        refine ⟨cell, q1, by rw [q3]; rfl, ?_⟩
        rw [q2]
        exact (hK.1 t _ hq).2.1
      · exact absurd (am_lt13 hq) (by omega)
    have hpar2 : (parseMethodDescriptor C.2.1.desc).map (fun d => d.parameters.length) = some As.length := by
      cases hz : parseMethodDescriptor C.2.1.desc with
      | none => rw [hz] at hpar; cases hpar
      | some sg =>
        rw [hz] at hpar
        simp only [Option.map_some, Option.some.injEq] at hpar ⊢
        simp only [List.length_cons] at hlen
        omega
    have hst : (Value.ref b :: As).reverse ++ rest = As.reverse ++ Value.ref b :: rest := by simp
    refine am_cont (va_runU (As := As) (b := b) (C := q.1) (owner := C.2.1.cls) (x := C.2.1) hfix hM1 (va_cwU As.length hts (am_goodIn (fun w hw => ?_)) rfl rfl rfl rfl ⟨hmh.1, hmh.2, hpar2⟩ ⟨hfr, ?_⟩) ⟨am_blind, hrecv, hpre⟩ rfl rfl hL.1 hst hroom hdg ⟨hcl, hsl⟩) hL hF k
    · simp only [va_wsU, am_ws, List.cons_append, List.nil_append, List.mem_cons] at hw
      rcases hw with rfl | rfl | rfl | rfl | rfl | rfl | hw
      · exact am_w_in w1
      · exact am_w_in w2
      · exact w6
      · exact am_w_in w3
      · exact am_w_in w4
      · exact w5'
      · exact hw
    · show 8 + (C.2.2.2.1 + 11) + 100 * d ≤ R.locals
      omega
  · -- a constructor
    simp only [Bool.and_eq_true, decide_eq_true_eq] at hck
    obtain ⟨⟨⟨⟨⟨⟨⟨⟨rfl, w1⟩, w2⟩, w3⟩, w4⟩, ⟨⟨⟨⟨hpl, hmh⟩, hcs⟩, h16⟩, hmx⟩⟩, hin⟩, hrt⟩, hpar⟩ := hck
    have hins : ins = .invokespecial i := by cases ins <;> first | (cases hop; rfl) | cases hop
    subst hins
    rw [if_pos (by omega)] at hrun
    have hM1 := am_met hS hrun hpl hcs h16 (hslc (by omega))
    have w4' := am_w_in w4
    simp only [am_rc] at hrc
    split at hrc
    rotate_left
    · cases hrc
    rename_i b As
    have hpar2 : (parseMethodDescriptor C.2.1.desc).map (fun d => d.parameters.length) = some As.length := by
      cases hz : parseMethodDescriptor C.2.1.desc with
      | none => rw [hz] at hpar; cases hpar
      | some sg =>
        rw [hz] at hpar
        simp only [Option.map_some, Option.some.injEq] at hpar ⊢
        simp only [List.length_cons] at hlen
        omega
    have hst : (Value.ref b :: As).reverse ++ rest = As.reverse ++ Value.ref b :: rest := by simp
    obtain ⟨C1, C2, C3, C4, C5⟩ := C
    have hrt : C5 = none := hrt
    subst hrt
    refine am_cont (va_runI (As := As) (b := b) hfix hM1 (cwI As.length hts (am_goodIn (fun w hw => ?_)) rfl rfl rfl (hini (am_w_in w3)) (hini (am_w_in w1)) (hini (am_w_in w2)) hin ⟨hmh.1, hmh.2, hpar2⟩ ⟨hfr, ?_⟩) ⟨am_blind, hpre⟩ rfl rfl hL.1 hst hroom hdg ⟨hcl, hsl⟩) hL hF k
    · rcases List.mem_cons.mp hw with rfl | hw
      · exact w4'
      · exact hw
    · dsimp only at hmx
      show 8 + (C4 + 11) + 100 * d ≤ R.locals
      omega
  · -- Object's constructor
    simp only [Bool.and_eq_true, decide_eq_true_eq] at hck
    obtain ⟨⟨⟨⟨rfl, w1⟩, w2⟩, w3⟩, rfl⟩ := hck
    have hins : ins = .invokespecial i := by cases ins <;> first | (cases hop; rfl) | cases hop
    subst hins
    rw [if_neg (by omega), if_pos (by omega)] at hrun
    simp only [am_bi] at hrun
    split at hrun
    rotate_left
    · cases hrun
    cases hrun
    refine W.objInit hx hb hown (hini (am_w_in w1)) (hini (am_w_in w2)) (hini (am_w_in w3)) rfl (by rw [hml]; exact hL.1) rfl hdg (by omega) ?_ (am_V0 k H locs ls hP hL hF)
    have hcat2 : (rest.map fun v => v.category).sum ≤ 8 := hcat
    show 2 * 0 + (rest.map fun v => v.category).sum + 12 ≤ R.locals
    omega
  · -- Math.max
    simp only [Bool.and_eq_true, decide_eq_true_eq] at hck
    obtain ⟨⟨⟨⟨⟨rfl, w1⟩, w2⟩, w3⟩, w4⟩, rfl⟩ := hck
    have hins : ins = .invokestatic i := by cases ins <;> first | (cases hop; rfl) | cases hop
    subst hins
    rw [if_neg (by omega), if_pos (by omega)] at hrun
    simp only [am_bi] at hrun
    split at hrun
    rotate_left
    · cases hrun
    cases hrun
    have hcat2 : (rest.map fun v => v.category).sum ≤ 8 := hcat
    exact va_mmax (rest := rest) hx hb (hml.trans hL.1.symm) hown (hini (am_w_in w1)) (hini (am_w_in w2)) (hini (am_w_in w3)) (hini (am_w_in w4)) (by omega) (by omega) (by omega) (by omega) hdg (am_V0 k H locs ls hP hL hF)
  · -- Math.min
    simp only [Bool.and_eq_true, decide_eq_true_eq] at hck
    obtain ⟨⟨⟨⟨⟨rfl, w1⟩, w2⟩, w3⟩, w4⟩, rfl⟩ := hck
    have hins : ins = .invokestatic i := by cases ins <;> first | (cases hop; rfl) | cases hop
    subst hins
    rw [if_neg (by omega), if_pos (by omega)] at hrun
    simp only [am_bi] at hrun
    split at hrun
    rotate_left
    · cases hrun
    cases hrun
    have hcat2 : (rest.map fun v => v.category).sum ≤ 8 := hcat
    exact va_mmin (rest := rest) hx hb (hml.trans hL.1.symm) hown (hini (am_w_in w1)) (hini (am_w_in w2)) (hini (am_w_in w3)) (hini (am_w_in w4)) (by omega) (by omega) (by omega) (by omega) hdg (am_V0 k H locs ls hP hL hF)
  · -- Math.abs
    simp only [Bool.and_eq_true, decide_eq_true_eq] at hck
    obtain ⟨⟨⟨⟨⟨rfl, w1⟩, w2⟩, w3⟩, w4⟩, rfl⟩ := hck
    have hins : ins = .invokestatic i := by cases ins <;> first | (cases hop; rfl) | cases hop
    subst hins
    rw [if_neg (by omega), if_pos (by omega)] at hrun
    simp only [am_bi] at hrun
    split at hrun
    rotate_left
    · cases hrun
    cases hrun
    have hcat2 : (rest.map fun v => v.category).sum ≤ 8 := hcat
    exact va_mabs (rest := rest) hx hb (hml.trans hL.1.symm) hown (hini (am_w_in w1)) (hini (am_w_in w2)) (hini (am_w_in w3)) (hini (am_w_in w4)) (by omega) (by omega) (by omega) (by omega) hdg (am_V0 k H locs ls hP hL hF)
  · -- System.arraycopy
    simp only [Bool.and_eq_true, decide_eq_true_eq] at hck
    obtain ⟨⟨⟨⟨⟨rfl, w1⟩, w2⟩, w3⟩, w4⟩, rfl⟩ := hck
    have hins : ins = .invokestatic i := by cases ins <;> first | (cases hop; rfl) | cases hop
    subst hins
    rw [if_neg (by omega), if_pos (by omega)] at hrun
    simp only [am_bi] at hrun
    split at hrun
    rotate_left
    · cases hrun
    split at hrun
    rotate_left
    · cases hrun
    rename_i e1 e2
    split at hrun
    rotate_left
    · cases hrun
    rename_i hq
    obtain ⟨rfl, rfl, q1, q2, q3, q4, q5, q6, q7, q8⟩ := hq
    cases hrun
    exact am_copy_sim hX hdg (hini (am_w_in w1)) (hini (am_w_in w2)) (hini (am_w_in w3)) (hini (am_w_in w4)) e1 e2 q1 q2 q3 q4 q5 q6 q8 (by omega) (by omega) hcat hP hL hF (am_V0 k)
  · -- toss
    simp only [Bool.and_eq_true, decide_eq_true_eq] at hck
    rw [if_neg (by omega), if_neg (by omega)] at hrun
    exact am_cont ((hO _ _ _ _ _ hrun).2 p e R s m args below meth c M C pc op i n d cells slots ts ins rest L H locs ls (by omega) (hd20 (by omega)) hX (congrArg Prod.fst hck.1) hdg hop hinv hlen hrc hfr hlo hcl hsl hcat hP hL hF) hL hF k
  · -- element
    simp only [Bool.and_eq_true, decide_eq_true_eq] at hck
    rw [if_neg (by omega), if_neg (by omega)] at hrun
    exact am_cont ((hO _ _ _ _ _ hrun).2 p e R s m args below meth c M C pc op i n d cells slots ts ins rest L H locs ls (by omega) (hd20 (by omega)) hX (congrArg Prod.fst hck.1) hdg hop hinv hlen hrc hfr hlo hcl hsl hcat hP hL hF) hL hF k
  · cases hck
end SIM
theorem am_sim {l : Launch} {D : am_D} {O : Nat → List Value → Hp → Option (Option Value × Hp)} {B : Nat} (hO : am_Or l D O B) : ∀ F, am_Sim l D O B F := by
  have hmono := am_mono (B := B) (fun mode vs h r h1 q => (hO mode vs h r h1 q).1)
  intro F
  induction F with
  | zero => intro d M pc L S h r h2 hs; cases hs
  | succ F ih =>
    intro d M pc L S h r h2 hs p e R s m args below meth c cells slots X hfr hlo hcl hsl
    simp only [am] at hs
    split at hs
    · cases hs
    rename_i ins len hdg
    split at hs
    rotate_left
    · cases hs
    rename_i hlk
    split at hs
    · rename_i op i hop
      have hlen : len = 3 := by
        cases ins <;> first | (exact eq_of_beq (show (len == 3) = true from hlk)) | cases hop
      subst hlen
      split at hs
      rotate_left
      · cases hs
      rename_i d' mode n ts C hinv
      split at hs
      rotate_left
      · cases hs
      rename_i hc
      split at hs
      rotate_left
      · cases hs
      rename_i r1 h1 hrun
      have m1 := hmono _ _ _ _ _ _ _ _ _ hs
      have m0 : h.2.1 ≤ h1.2.1 ∧ h.2.2 ≤ h1.2.2 := by
        split at hrun
        · exact hmono _ _ _ _ _ _ _ _ _ hrun
        · split at hrun
          · exact am_bi_mono hrun
          · exact (hO _ _ _ _ _ hrun).1
      have k := ih _ _ _ _ _ _ _ _ hs p e R s m args below meth c (cells + (h1.2.1 - h.2.1)) (slots + (h1.2.2 - h.2.2)) X hfr hlo (by omega) (by omega)
      have e1 : cells + (h1.2.1 - h.2.1) + (h2.2.1 - h1.2.1) = cells + (h2.2.1 - h.2.1) := by omega
      have e2 : slots + (h1.2.2 - h.2.2) + (h2.2.2 - h1.2.2) = slots + (h2.2.2 - h.2.2) := by omega
      rw [e1, e2] at k
      exact am_inv_sim ih hO X hdg hop hinv hc hrun hfr hlo (by omega) (by omega) k
    · split at hs
      · rename_i r0 hret
        cases hs
        rw [Nat.sub_self, Nat.sub_self]
        exact am_ret_sim X hdg hlk hret
      · split at hs
        rotate_left
        · cases hs
        rename_i pc1 L1 S1 h1 hstep
        have m1 := hmono _ _ _ _ _ _ _ _ _ hs
        have m0 := am_s_mono hstep
        have k := ih _ _ _ _ _ _ _ _ hs p e R s m args below meth c (cells + (h1.2.1 - h.2.1)) (slots + (h1.2.2 - h.2.2)) X hfr hlo (by omega) (by omega)
        have e1 : cells + (h1.2.1 - h.2.1) + (h2.2.1 - h1.2.1) = cells + (h2.2.1 - h.2.1) := by omega
        have e2 : slots + (h1.2.2 - h.2.2) + (h2.2.2 - h1.2.2) = slots + (h2.2.2 - h.2.2) := by omega
        rw [e1, e2] at k
        exact am_s_sim X hdg hlk hstep ⟨by omega, by omega⟩ k
