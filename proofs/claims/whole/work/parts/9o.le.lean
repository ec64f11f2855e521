/-! the law's own element: returns, or catches (by hand) -/
theorem am_recv {D : am_D} {B : Nat} {h : Hp} {H : Heap} {s : State} {b t : Nat} {fs : List Value} {C : String} (hP : am_P D B h H) (hK : am_K D s) (ha : h.1 b = some (t, fs)) (hc : (vwCl[t]?).map (fun q => q.1) = some C) : ∃ cellB : Cell, H[b]? = some cellB ∧ cellB.vm.isStatics = false ∧ s.vm.findClass C = some cellB.cls := by
  rw [Option.map_eq_some_iff] at hc
  obtain ⟨q, hq, rfl⟩ := hc
  rcases hP.2.2 b t fs ha with ⟨r', g1, g2, cell, q1, q2, q3, q4⟩ | ⟨g1, -⟩
  · have hrr : r' = q := Option.some.inj (g1.symm.trans hq)
    subst hrr
    exact ⟨cell, q1, by rw [q3]; rfl, by rw [q2]; exact (hK.1 t _ hq).2.1⟩
  · exact absurd (am_lt13 hq) (by omega)
theorem st_kept {p : Program} {l : Launch} {e : Env} {R : Room} {s : State} {m : MethodId} {args : Array Value} {below : List Frame} {meth : Method} {c : Code} {T : State} {locs : List Loc} {cells slots B : Nat} (X : Stand p l e R s m args below meth c T locs cells slots) (hF : ∀ q ∈ locs, B ≤ q.base) : ∀ a : Nat, a < s.heap.size → ¬ B ≤ a → T.heap[a]? = s.heap[a]? := fun a h1 h2 => (vx_frame (U := T) X.same).2 a h1 (fun z hz e => h2 (e ▸ hF z hz))
def lwAll (ws : List Cond) : Bool := ws.all (fun w => lw_good.contains w)
theorem lwAll_use {ws : List Cond} (h : lwAll ws = true) : ∀ w ∈ ws, w ∈ lw_good := fun w q => List.contains_iff_mem.mp (List.all_eq_true.mp h w q)
abbrev hhL : List (Nat × Nat × Nat × Nat) := [(0, 9, 12, 13), (0, 9, 16, 15)]
theorem lw_le : lwAll [.methodLink RL 7 yX11_element, .instanceMethod yX11_element, .selects RX11 yX11_element yX11_element, .initialized RX11, .code yX11_element cX11_element 4 (some .long), .classLink RL 13 iaE, .classLink RL 15 isE] = true := by decide +kernel
section
variable {p : Program} {l : Launch} {e : Env} {R : Room} {s : State} {m : MethodId} {args : Array Value} {below : List Frame} {meth : Method} {c : Code} {Q : State → Prop} {D : am_D} {B : Nat} {cells slots : Nat} {L : List Value} {h : Hp}
/-- the call of the class's element -/
theorem le_call {d x mc ms : Nat} {fs rest : List Value} {p0 q0 : Int} {Qc : Array Value → State → Outcome → State → Prop} {XC : String → State → State → Prop} (X : am_Cx D p s m args meth c mL_element) (Z : Zx B s) (hb : h.1 x = some (11, fs))
    (hM : vx_Met l yX11_element (am_ws mEl) (rmX d mc ms) (ax_Pc D B [.ref x, .int (i32 p0), .int (i32 q0)] h) Qc XC mc ms (fun q => B ≤ q))
    (hcat : am_cats rest ≤ 8) (hfr : d + 1 ≤ R.frames) (hlo : 100 * (d + 1) ≤ R.locals) (hcl : cells + mc ≤ R.cells) (hsl : slots + ms ≤ R.slots)
    (kk : ∀ (v : Option Value) (st t : State), Qc [.ref x, .int (i32 p0), .int (i32 q0)].toArray st (.returned v) t → ∃ h1, am_P D B h1 t.heap ∧ am_V p l e R s m args below meth c Q D B mL_element (cells + mc) (slots + ms) (5 + 3) L (v.toList ++ rest) h1)
    (kx : ∀ (ls : Array Slot) (E : String) (st t : State) (q : Addr) (ce : Cell) (locs1 : List Loc), am_lv ls 5 L → XC E st t → (∀ z ∈ locs1, B ≤ z.base) → t.heap[q]? = some ce → ce.vm = .none → s.vm.findClass E = some ce.cls → vx_W p l e R s m args below meth c t.heap locs1 (cells + mc) (slots + ms) Q (F0 m 5 ls rest) q) :
    am_V p l e R s m args below meth c Q D B mL_element cells slots 5 L (.int (i32 q0) :: .int (i32 p0) :: .ref x :: rest) h := by
  have hX := X
  obtain ⟨hx, hbc, hml, hret, hlocks, hown, hts, hK, hnm, hM16⟩ := X
  intro H locs ls hP hL hF T hT XS
  have hq := st_kept XS hF
  rw [hT] at hq
  have hfix : CallFix p m c mL_element.2.2.1 mL_element.2.2.2.1 s args lw_good (am_R mL_element.1) := ⟨hx, hbc, hml, hown, hts⟩
  have hpre : ∀ U : State, U.heap = H → s.WarmedH U.vm → ax_Pc D B [.ref x, .int (i32 p0), .int (i32 q0)] h [.ref x, .int (i32 p0), .int (i32 q0)].toArray U := fun U hU hW => ⟨rfl, ⟨by rw [hU]; exact hP, hK.moved hW⟩, Z.go hW (fun a h1 h2 => by rw [hU]; exact hq a h1 h2)⟩
  have hroom : 2 * (F0 m 5 ls (.int (i32 q0) :: .int (i32 p0) :: .ref x :: rest)).monitorRoom + (rest.map fun v => v.category).sum ≤ 8 := lv_room hcat
  have hw := lwAll_use lw_le
  have hr := vx_runV (e := e) (below := below) (meth := meth) (As := [.int (i32 p0), .int (i32 q0)]) (b := x) (C := RX11) (rest := rest) (g := F0 m 5 ls (.int (i32 q0) :: .int (i32 p0) :: .ref x :: rest)) (H := H) (locs := locs) (cells := cells) (slots := slots) hfix hM (cwV 2 hts (am_goodIn (fun w q => by
      simp only [wsV, am_ws, List.cons_append, List.nil_append, List.mem_cons] at q
      rcases q with rfl | rfl | rfl | rfl | rfl | q
      · exact hw (.methodLink RL 7 yX11_element) (by simp)
      · exact hw (.instanceMethod yX11_element) (by simp)
      · exact hw (.selects RX11 yX11_element yX11_element) (by simp)
      · exact hw (.initialized RX11) (by simp)
      · exact hw (.code yX11_element cX11_element 4 (some .long)) (by simp)
      · exact q)) rfl rfl rfl ⟨rfl, by decide, by decide, by decide +kernel⟩ ⟨hfr, by show 8 + (4 + 11) + 100 * d ≤ R.locals; omega⟩) ⟨ax_blind, am_recv hP hK hb rfl, hpre⟩ rfl rfl hL.1 rfl hroom dL_element_5 ⟨hcl, hsl⟩
  exact am_contX (M := mL_element) hr hL hF kk (fun E st t q ce locs1 a1 a2 a3 a4 a5 => kx ls E st t q ce locs1 hL a1 a2 a3 a4 a5) T hT XS
end

theorem covers_tbl {z : ExceptionTableEntry} {L : List (Nat × Nat × Nat × Nat)} {c : Code} (h : c.exceptionTable.toList = tableOf L) (hz : z ∈ c.exceptionTable.toList) : z ∈ tableOf L := h ▸ hz
/-- it throws: caught, 1 -/
theorem le_1 {l : Launch} {D : am_D} {B d x o : Nat} {fs : List Value} {p0 q0 : Int} {h : Hp} (hb : h.1 x = some (11, fs)) (hM : vx_Met l yX11_element (am_ws mEl) (rmX d 1 6) (ax_Pc D B [.ref x, .int (i32 p0), .int (i32 q0)] h) Q0 (XT D B iaE h) 1 6 (fun q => B ≤ q)) :
    vx_Met l yL_element (am_wsH mL_element hhL) (rmX (d + 1) 1 6) (ax_Pc D B [.ref x, .int (i32 p0), .int (i32 q0), .ref o] h) (am_Qc D B (some (.int (i32 1))) (hp1 h)) X0 1 6 (fun q => B ≤ q) := by
  refine ax_metH (C := mL_element) (hh := hhL) (by decide +kernel) rfl (by decide) (show 4 ≤ 5 by decide) ?_
  intro p e s m below meth c htab X Z
  refine am_v_aload_n X rfl dL_element_0 ?_
  refine am_v_iconst X dL_element_1 ?_
  refine am_v_aload_n X rfl dL_element_2 ?_
  refine am_v_iload_n X rfl dL_element_3 ?_
  refine am_v_iload_n X rfl dL_element_4 ?_
  refine le_call (d := d) X Z hb hM (show 2 ≤ 8 by decide) (Nat.le_refl _) (show 100 * (d + 1) ≤ 100 * (d + 1) from Nat.le_refl _) (Nat.le_refl _) (Nat.le_refl _) (fun v st t q => q.elim) (fun ls E st t q ce locs1 hL hx hF hce hcv hcl => ?_)
  obtain ⟨rfl, hP1, hK1⟩ := hx
  refine vx_catch (own := RL) (name := iaE) X.2.2.2.2.2.1 [] ⟨0, 9, 12, 13⟩ [⟨0, 9, 16, 15⟩] (htab.trans rfl) (fun z hz => nomatch hz) (by decide) (by decide) (X.2.2.2.2.2.2.1 _ (lwAll_use lw_le _ (by simp))) (va_Nw.use rfl Z.2.2.1.1) hce hcv hcl ?_
  refine (?_ : am_V p l e _ s m _ below meth c _ D B mL_element _ _ 12 _ [.ref q] (hp1 h)) t.heap locs1 ls hP1 hL hF
  refine am_v_astore X (show 4 < 5 by decide) dL_element_12 ?_
  refine am_v_iconst X dL_element_14 ?_
  exact ax_ret X dL_element_15 rfl rfl rfl rfl
theorem le_2 {l : Launch} {D : am_D} {B d x o : Nat} {fs : List Value} {p0 q0 : Int} {h : Hp} (hb : h.1 x = some (11, fs)) (hM : vx_Met l yX11_element (am_ws mEl) (rmX d 1 6) (ax_Pc D B [.ref x, .int (i32 p0), .int (i32 q0)] h) Q0 (XT D B isE h) 1 6 (fun q => B ≤ q)) :
    vx_Met l yL_element (am_wsH mL_element hhL) (rmX (d + 1) 1 6) (ax_Pc D B [.ref x, .int (i32 p0), .int (i32 q0), .ref o] h) (am_Qc D B (some (.int (i32 2))) (hp1 h)) X0 1 6 (fun q => B ≤ q) := by
  refine ax_metH (C := mL_element) (hh := hhL) (by decide +kernel) rfl (by decide) (show 4 ≤ 5 by decide) ?_
  intro p e s m below meth c htab X Z
  refine am_v_aload_n X rfl dL_element_0 ?_
  refine am_v_iconst X dL_element_1 ?_
  refine am_v_aload_n X rfl dL_element_2 ?_
  refine am_v_iload_n X rfl dL_element_3 ?_
  refine am_v_iload_n X rfl dL_element_4 ?_
  refine le_call (d := d) X Z hb hM (show 2 ≤ 8 by decide) (Nat.le_refl _) (show 100 * (d + 1) ≤ 100 * (d + 1) from Nat.le_refl _) (Nat.le_refl _) (Nat.le_refl _) (fun v st t q => q.elim) (fun ls E st t q ce locs1 hL hx hF hce hcv hcl => ?_)
  obtain ⟨rfl, hP1, hK1⟩ := hx
  refine vx_catch (own := RL) (name := isE) X.2.2.2.2.2.1 [⟨0, 9, 12, 13⟩] ⟨0, 9, 16, 15⟩ [] (htab.trans rfl) (fun z hz => ?_) (by decide) (by decide) (X.2.2.2.2.2.2.1 _ (lwAll_use lw_le _ (by simp))) (va_Nw.use rfl Z.2.2.1.2.1) hce hcv hcl ?_
  · rw [List.mem_singleton] at hz
    subst hz
    exact Or.inr ⟨by decide, iaE, X.2.2.2.2.2.2.1 _ (lwAll_use lw_le _ (by simp)), Z.2.2.2.1⟩
  refine (?_ : am_V p l e _ s m _ below meth c _ D B mL_element _ _ 16 _ [.ref q] (hp1 h)) t.heap locs1 ls hP1 hL hF
  refine am_v_astore X (show 4 < 5 by decide) dL_element_16 ?_
  refine am_v_iconst X dL_element_18 ?_
  exact ax_ret X dL_element_19 rfl rfl rfl rfl
theorem le_0 {l : Launch} {D : am_D} {B d x o : Nat} {fs : List Value} {p0 q0 : Int} {v : Int64} {z : Int64} {h : Hp} (hb : h.1 x = some (11, fs)) (ho : h.1 o = some (21, [.long z])) (hBo : B ≤ o) (hM : vx_Met l yX11_element (am_ws mEl) (rmX d 0 0) (ax_Pc D B [.ref x, .int (i32 p0), .int (i32 q0)] h) (am_Qc D B (some (.long v)) h) X0 0 0 (fun q => B ≤ q)) :
    vx_Met l yL_element (am_wsH mL_element hhL) (rmX (d + 1) 0 0) (ax_Pc D B [.ref x, .int (i32 p0), .int (i32 q0), .ref o] h) (am_Qc D B (some (.int (i32 0))) (am_put h o (21, [.long v]))) X0 0 0 (fun q => B ≤ q) := by
  refine ax_metH (C := mL_element) (hh := hhL) (by decide +kernel) rfl (by decide) (show 4 ≤ 5 by decide) ?_
  intro p e s m below meth c htab X Z
  refine am_v_aload_n X rfl dL_element_0 ?_
  refine am_v_iconst X dL_element_1 ?_
  refine am_v_aload_n X rfl dL_element_2 ?_
  refine am_v_iload_n X rfl dL_element_3 ?_
  refine am_v_iload_n X rfl dL_element_4 ?_
  refine le_call (d := d) X Z hb hM (show 2 ≤ 8 by decide) (Nat.le_refl _) (show 100 * (d + 1) ≤ 100 * (d + 1) from Nat.le_refl _) (Nat.le_refl _) (Nat.le_refl _) (fun v st t q => ?_) (fun ls E st t q ce locs1 hL hx hF hce hcv hcl => hx.elim)
  obtain ⟨q1, q2, q3⟩ := q
  cases q1
  refine ⟨h, q2, ?_⟩
  refine am_v_last X ho rfl (by decide) (show 0 < 1 by decide) hBo dL_element_8 ?_
  refine am_v_goto X rfl dL_element_9 ?_
  refine am_v_iconst X dL_element_20 ?_
  exact ax_ret X dL_element_21 rfl rfl rfl rfl
