/-! contracts of methods that throw: what they stand on (by hand) -/
abbrev iaE : String := "java/lang/IllegalArgumentException"
abbrev isE : String := "java/lang/IllegalStateException"
abbrev uoE : String := "java/lang/UnsupportedOperationException"
abbrev exN : List String := ["java/lang/RuntimeException", "java/lang/Exception"]
/-- the constructors above -/
def decl3 (U : State) : Prop := va_Nw (.declares (Bundle.initS "java/lang/RuntimeException")) U ∧ va_Nw (.declares (Bundle.initS "java/lang/Exception")) U ∧ va_Nw (.declares (Bundle.initS Bundle.tN)) U
/-- what throwing asks of the machine -/
def Zx (B : Nat) (U : State) : Prop :=
  (vx_Zq Bundle.tN "UNASSIGNED_STACK" Bundle.steD (fun q => B ≤ q) U U.heap ∧ vx_Zq Bundle.tN "SUPPRESSED_SENTINEL" Bundle.listD (fun q => B ≤ q) U U.heap) ∧
  ((∃ a, vk_R RX11 300 "no such shelf" a U) ∧ (∃ a, vk_R RX11 307 "no row" a U) ∧ (∃ a, vk_R RX11 310 "no such place" a U) ∧ (∃ a, vk_R RX0 36 "a bold one fails" a U) ∧ (∃ a, vk_R RX1 63 "a child fails" a U) ∧ ∃ a, vk_R RX3 30 "a diver fails" a U) ∧
  (va_Nw (.castable iaE iaE) U ∧ va_Nw (.castable isE isE) U ∧ va_Nw (.castable uoE uoE) U ∧ decl3 U) ∧
  va_Nc isE iaE U ∧ va_Nc uoE iaE U ∧ va_Nc isE uoE U
theorem Zx.go {B : Nat} {s U : State} (z : Zx B s) (hW : s.WarmedH U.vm) (hq : ∀ a : Nat, a < s.heap.size → ¬ B ≤ a → U.heap[a]? = s.heap[a]?) : Zx B U := by
  obtain ⟨⟨a1, a2⟩, ⟨⟨_, b1⟩, ⟨_, b2⟩, ⟨_, b3⟩, ⟨_, b4⟩, ⟨_, b5⟩, ⟨_, b6⟩⟩, ⟨c1, c2, c3, c4, c5, c6⟩, d1, d2, d3⟩ := z
  exact ⟨⟨(a1.kept hq).moved hW.alike, (a2.kept hq).moved hW.alike⟩, ⟨⟨_, b1.warm hW⟩, ⟨_, b2.warm hW⟩, ⟨_, b3.warm hW⟩, ⟨_, b4.warm hW⟩, ⟨_, b5.warm hW⟩, ⟨_, b6.warm hW⟩⟩, ⟨c1.warmC hW, c2.warmC hW, c3.warmC hW, c4.warmD hW, c5.warmD hW, c6.warmD hW⟩, d1.moved hW.alike, d2.moved hW.alike, d3.moved hW.alike⟩
theorem Zx.eq {B : Nat} {s U : State} (z : Zx B s) (hv : U.vm = s.vm) (hh : U.heap = s.heap) : Zx B U := z.go (by rw [hv]; exact State.WarmedH.refl s) (fun a _ _ => by rw [hh])
/-- one more cell, none of the model's -/
theorem am_P.one {D : am_D} {B : Nat} {h : Hp} {H H1 : Heap} (hP : am_P D B h H) (z : H1.size = H.size + 1) (hq : ∀ q : Nat, q < H.size → H1[q]? = H[q]?) : am_P D B (h.1, h.2.1 + 1, h.2.2 + 6) H1 := by
  obtain ⟨q1, q2, q3⟩ := hP
  exact ⟨by rw [z, q1], by show B ≤ h.2.1 + 1; omega, fun a t fs ha => (q3 a t fs ha).kept (hq a (q3 a t fs ha).lt)⟩
def ax_Pc (D : am_D) (B : Nat) (vs : List Value) (h : Hp) : Array Value → State → Prop := va_Pc vs (fun U => (am_P D B h U.heap ∧ am_K D U) ∧ Zx B U)
theorem ax_blind {D : am_D} {B : Nat} {vs : List Value} {h : Hp} : FrameBlind (ax_Pc D B vs h) := fun a U g mk q => ⟨q.1, ⟨q.2.1.1, q.2.1.2.moved (State.WarmedH.refl U)⟩, q.2.2.eq rfl rfl⟩
def hp1 (h : Hp) : Hp := (h.1, h.2.1 + 1, h.2.2 + 6)
/-- thrown: E, one cell more -/
def XT (D : am_D) (B : Nat) (E0 : String) (h : Hp) : String → State → State → Prop := fun E _ t => E = E0 ∧ am_P D B (hp1 h) t.heap ∧ am_K D t
def X0 : String → State → State → Prop := fun _ _ _ => False
def Q0 : Array Value → State → Outcome → State → Prop := fun _ _ _ _ => False
def rmX (d mc ms : Nat) : Room := { frames := d, cells := mc, slots := ms, locals := 100 * d }
theorem ax_met {l : Launch} {D : am_D} {B d mc ms : Nat} {C : Mth} {vs : List Value} {h : Hp} {Qc : Array Value → State → Outcome → State → Prop} {XC : String → State → State → Prop} (hpl : plainName C.2.1.cls = true) (hcl : C.2.1.cls = am_R C.1) (h16 : C.1 < 16) (hsl : (am_sl vs).length ≤ C.2.2.2.1)
    (k : ∀ (p : Program) (e : Env) (s : State) (m : MethodId) (below : List Frame) (meth : Method) (c : Code), (∀ x ∈ c.exceptionTable.toList, False) → am_Cx D p s m vs.toArray meth c C → Zx B s → am_V p l e (rmX d mc ms) s m vs.toArray below meth c (vx_MQ below Qc XC vs.toArray s mc ms (fun q => B ≤ q)) D B C 0 0 0 (am_loc vs C.2.2.2.1) [] h) :
    vx_Met l C.2.1 (am_ws C) (rmX d mc ms) (ax_Pc D B vs h) Qc XC mc ms (fun q => B ≤ q) := by
  refine vx_ofW (cc := C.2.2.1) (maxL := C.2.2.2.1) (ret := C.2.2.2.2) hpl rfl ?_
  intro p e s m args below meth c s₁ Bd hml hne hv
  obtain ⟨rfl, ⟨hP, hK⟩, hZ⟩ := hv
  have hts := atoms_spec (ws := am_ws C) Bd.pre
  have X : am_Cx D p s m vs.toArray meth c C := ⟨Bd.exec, Bd.bytes, hml, Bd.returns, Bd.notSynchronized, hcl ▸ findClass_of_methodNamed Bd.named, fun w hw => hts w (List.mem_cons_of_mem _ hw), hK, (name_of_methodNamed Bd.named Bd.method).1, h16⟩
  rw [lg_entry_eq]
  exact k p e s m below meth c hne X hZ s.heap [] _ hP (am_loc_lv vs hsl) (fun q hq => by cases hq)
abbrev am_wsH (C : Mth) (hh : List (Nat × Nat × Nat × Nat)) : List Cond := Cond.codeWith C.2.1 C.2.2.1 C.2.2.2.1 C.2.2.2.2 hh :: lw_good
theorem ax_metH {l : Launch} {D : am_D} {B d mc ms : Nat} {C : Mth} {hh : List (Nat × Nat × Nat × Nat)} {vs : List Value} {h : Hp} {Qc : Array Value → State → Outcome → State → Prop} {XC : String → State → State → Prop} (hpl : plainName C.2.1.cls = true) (hcl : C.2.1.cls = am_R C.1) (h16 : C.1 < 16) (hsl : (am_sl vs).length ≤ C.2.2.2.1)
    (k : ∀ (p : Program) (e : Env) (s : State) (m : MethodId) (below : List Frame) (meth : Method) (c : Code), c.exceptionTable.toList = tableOf hh → am_Cx D p s m vs.toArray meth c C → Zx B s → am_V p l e (rmX d mc ms) s m vs.toArray below meth c (vx_MQ below Qc XC vs.toArray s mc ms (fun q => B ≤ q)) D B C 0 0 0 (am_loc vs C.2.2.2.1) [] h) :
    vx_Met l C.2.1 (am_wsH C hh) (rmX d mc ms) (ax_Pc D B vs h) Qc XC mc ms (fun q => B ≤ q) := by
  refine vx_ofWH (cc := C.2.2.1) (maxL := C.2.2.2.1) (ret := C.2.2.2.2) (hh := hh) hpl rfl ?_
  intro p e s m args below meth c s₁ Bd hml hv
  obtain ⟨rfl, ⟨hP, hK⟩, hZ⟩ := hv
  have hts := atoms_spec (ws := am_wsH C hh) Bd.pre
  have X : am_Cx D p s m vs.toArray meth c C := ⟨Bd.exec, Bd.bytes, hml, Bd.returns, Bd.notSynchronized, hcl ▸ findClass_of_methodNamed Bd.named, fun w hw => hts w (List.mem_cons_of_mem _ hw), hK, (name_of_methodNamed Bd.named Bd.method).1, h16⟩
  rw [lg_entry_eq]
  exact k p e s m below meth c (vx_table (x := C.2.1) Bd (hts _ List.mem_cons_self)) X hZ s.heap [] _ hP (am_loc_lv vs hsl) (fun q hq => by cases hq)
section
variable {p : Program} {l : Launch} {e : Env} {R : Room} {s : State} {m : MethodId} {args : Array Value} {below : List Frame} {meth : Method} {c : Code} {Q : State → Prop} {D : am_D} {B : Nat} {M : Mth} {cells slots pc : Nat} {L S : List Value} {h : Hp}
/-- a call that answers v and leaves all as it was -/
theorem am_callEx {op i mode n d : Nat} {ts : List Nat} {C : Mth} {ins : Instr} {vs rest L0 : List Value} {r0 : Option Value} (X : am_Cx D p s m args meth c M) (hd : decode M.2.2.1 pc = .ok (ins, 3)) (hop : am_op ins = some (op, i)) (hi : am_inv M.1 op i = some (mode, n, ts, C)) (hm : mode ≤ 4) (hn : Nat.ble n S.length = true) (hvs : (S.take n).reverse = vs) (hrest : S.drop n = rest) (hcat : Nat.ble (am_cats rest) 8 = true) (hrc : am_rc mode ts vs h = true) (hsl : Nat.ble (am_sl vs).length C.2.2.2.1 = true) (hloc : am_loc vs C.2.2.2.1 = L0)
    (hE : Ex (am_none, B) d C 0 L0 [] h (fun r h1 => r = r0 ∧ h1 = h)) (hfr : d + 1 ≤ R.frames) (hlo : 100 * (d + 1) ≤ R.locals) (hcl : cells ≤ R.cells) (hsl2 : slots ≤ R.slots)
    (k : am_V p l e R s m args below meth c Q D B M cells slots (pc + 3) L (r0.toList ++ rest) h) : am_V p l e R s m args below meth c Q D B M cells slots pc L S h := by
  subst hvs; subst hrest; subst hloc
  obtain ⟨F, r1, h1, e1, rfl, rfl⟩ := hE
  refine am_inv_sim (F := F) (d := d) (am_sim am_Or_none F) am_Or_none X hd hop hi ⟨Nat.le_of_ble_eq_true hn, Nat.le_of_ble_eq_true hcat, hrc, fun _ => Nat.le_of_ble_eq_true hsl, fun z => absurd z (by omega)⟩ (r1 := r1) (h1 := h1) (by rw [if_pos hm]; exact e1) hfr hlo (by omega) (by omega) ?_
  rw [Nat.sub_self, Nat.sub_self]
  exact k
/-- behind a call that returned, or threw -/
theorem am_contX {H : Heap} {locs : List Loc} {ls : Array Slot} {mc ms : Nat} {rest : List Value} {Qa : State → Outcome → State → Prop} {XC : String → State → State → Prop} (hr : vx_Run p l e R s m args below meth c H locs cells slots mc ms (F0 m pc ls S) rest Qa XC (fun q => B ≤ q)) (hL : am_lv ls M.2.2.2.1 L) (hF : ∀ q ∈ locs, B ≤ q.base)
    (kk : ∀ (v : Option Value) (st t : State), Qa st (.returned v) t → ∃ h1, am_P D B h1 t.heap ∧ am_V p l e R s m args below meth c Q D B M (cells + mc) (slots + ms) (pc + 3) L (v.toList ++ rest) h1)
    (kx : ∀ (E : String) (st t : State) (q : Addr) (ce : Cell) (locs1 : List Loc), XC E st t → (∀ z ∈ locs1, B ≤ z.base) → t.heap[q]? = some ce → ce.vm = .none → s.vm.findClass E = some ce.cls → vx_W p l e R s m args below meth c t.heap locs1 (cells + mc) (slots + ms) Q (F0 m pc ls rest) q) : W p l e R s m args below meth c H locs cells slots Q (F0 m pc ls S) := by
  intro T hT X
  have hFF : ∀ L' : List Loc, (∀ q ∈ L', B ≤ q.base) → ∀ q ∈ locs ++ L', B ≤ q.base := fun L' hL' q hq => by
    rcases List.mem_append.mp hq with z | z
    · exact hF q z
    · exact hL' q z
  rcases hr T hT X with ⟨v, st₀, t, T', L', h0, X', hL', e1, e2, hq, st⟩ | ⟨q, st₀, t, T', L', E, ce, h0, X', hL', e1, e2, hx, hce, hcv, hcl, st⟩
  · obtain ⟨h1, hP, k⟩ := kk v st₀ t hq
    obtain ⟨t2, a1, b1⟩ := k T'.heap (locs ++ L') ls (by rw [e1]; exact hP) hL (hFF L' hL') T' rfl X'
    exact ⟨t2, st t2 a1, b1⟩
  · obtain ⟨t2, a1, b1⟩ := kx E st₀ t q ce (locs ++ L') hx (hFF L' hL') hce hcv hcl T' e1 X'
    exact ⟨t2, st.trans a1, b1⟩
/-- the method's end, as one that might have thrown -/
theorem ax_ret {mc ms : Nat} {XC : String → State → State → Prop} {ins : Instr} {len : Nat} {r : Option Value} (X : am_Cx D p s m args meth c M) (hdg : decode M.2.2.1 pc = .ok (ins, len)) (hlk : am_lok ins len = true) (hr : am_ret M ins S = some r) (h1 : cells = mc) (h2 : slots = ms) : am_V p l e R s m args below meth c (vx_MQ below (am_Qc D B r h) XC args s mc ms (fun q => B ≤ q)) D B M cells slots pc L S h := by
  subst h1; subst h2
  exact fun H locs ls hP hL hF => vx_ret (am_ret_sim X hdg hlk hr H locs ls hP hL hF)
end
