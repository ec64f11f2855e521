/-! the small machine's steps are the machine's: states -/
abbrev am_D : Type := (Nat → ClassId) × (Nat → Nat → Nat) × (Nat → ClassId)
def am_wk (D : am_D) (B a t : Nat) (fs : List Value) (H : Heap) : Prop := a < B ∧ t = 20 ∧ ∃ c : Cell, H[a]? = some c ∧ c.cls = D.2.2 26 ∧ c.slots = (arrV (D.2.2 20) fs.length (vp_V fs)).slots ∧ c.vm ≠ .unknown ∧ ∀ k, c.vm ≠ .statics k
def am_at (D : am_D) (B a t : Nat) (fs : List Value) (H : Heap) : Prop := (∃ q : vw_C, vwCl[t]? = some q ∧ fs.length = q.2.2 ∧ t_OB a (D.1 t) q.2.2 (D.2.1 t) H (vp_V fs)) ∨ ((20 ≤ t ∧ t < 26) ∧ (H[a]? = some (arrV (D.2.2 t) fs.length (vp_V fs)) ∨ am_wk D B a t fs H))
def am_P (D : am_D) (B : Nat) (h : Hp) (H : Heap) : Prop := H.size = h.2.1 ∧ B ≤ h.2.1 ∧ ∀ (a t : Nat) (fs : List Value), h.1 a = some (t, fs) → am_at D B a t fs H
def am_K (D : am_D) (U : State) : Prop :=
  (∀ (c : Nat) (q : vw_C), vwCl[c]? = some q → u_Kn U q.1 q.2.1 q.2.2 (D.1 c) (D.2.1 c)) ∧
  (∀ t : Nat, 20 ≤ t → t < 26 → ArrOfT U (D.2.2 t) (am_aty t) ∧ va_RA U (D.2.2 t) (am_aty t)) ∧
  (va_Nw (.methodLinkNest RX8 25 yX11_within RX11) U ∧ va_Nw (.methodLinkNest RX7 38 yX11_within RX11) U ∧ ArrOfT U (D.2.2 26) .int) ∧
  (∀ t : Nat, 22 ≤ t → t < 26 → va_AO (am_acn t) U) ∧
  (∀ t ∈ [0, 1, 2, 3, 4, 6, 9, 10], U.vm.assignable (D.1 t) (D.1 1) = true)
theorem am_K.moved {D : am_D} {u U : State} (hW : u.WarmedH U.vm) (h : am_K D u) : am_K D U := by
  obtain ⟨h1, h2, h3, h4, h5⟩ := h
  exact ⟨fun c q hq => u_Kn_moved hW.alike (h1 c q hq), fun t a b => ⟨arrOfT_moved hW.alike (h2 t a b).1, (h2 t a b).2.moved hW.alike⟩, ⟨h3.1.warmM hW, h3.2.1.warmM hW, arrOfT_moved hW.alike h3.2.2⟩, fun t a b => (h4 t a b).moved hW.alike, fun t ht => by rw [hW.alike.assignable]; exact h5 t ht⟩
theorem am_lt13 {t : Nat} {q : vw_C} (h : vwCl[t]? = some q) : t < 13 := (List.getElem?_eq_some_iff.mp h).1
theorem am_at.kept {D : am_D} {B a t : Nat} {fs : List Value} {H H1 : Heap} (h : am_at D B a t fs H) (hq : H1[a]? = H[a]?) : am_at D B a t fs H1 := by
  rcases h with ⟨q, h1, h2, h3⟩ | ⟨h1, h2 | ⟨w1, w2, c, w3, w4⟩⟩
  · exact Or.inl ⟨q, h1, h2, h3.kept hq⟩
  · exact Or.inr ⟨h1, Or.inl (hq.trans h2)⟩
  · exact Or.inr ⟨h1, Or.inr ⟨w1, w2, c, hq.trans w3, w4⟩⟩
theorem am_at.lt {D : am_D} {B a t : Nat} {fs : List Value} {H : Heap} (h : am_at D B a t fs H) : a < H.size := by
  rcases h with ⟨q, h1, h2, cell, h3, -⟩ | ⟨h1, h2 | ⟨w1, w2, c, w3, w4⟩⟩
  · exact (Array.getElem?_eq_some_iff.mp h3).1
  · exact (Array.getElem?_eq_some_iff.mp h2).1
  · exact (Array.getElem?_eq_some_iff.mp w3).1
theorem am_P.put {D : am_D} {B : Nat} {h : Hp} {H H1 : Heap} {a t : Nat} {fs : List Value} (hP : am_P D B h H) (z : H1.size = H.size) (oq : ∀ q, q ≠ a → H1[q]? = H[q]?) (he : am_at D B a t fs H1) : am_P D B (am_put h a (t, fs)) H1 := by
  refine ⟨z.trans hP.1, hP.2.1, fun b t2 f2 hb => ?_⟩
  by_cases hab : b = a
  · subst hab
    have : some (t, fs) = some (t2, f2) := by rw [← hb]; simp [am_put]
    cases this
    exact he
  · have : h.1 b = some (t2, f2) := by rw [← hb]; simp [am_put, hab]
    exact (hP.2.2 b t2 f2 this).kept (oq b hab)
theorem am_P.new {D : am_D} {B : Nat} {h : Hp} {H H1 : Heap} {t n : Nat} {fs : List Value} (hP : am_P D B h H) (z : H1.size = H.size + 1) (oq : ∀ q, q < H.size → H1[q]? = H[q]?) (he : am_at D B H.size t fs H1) : am_P D B (am_new h (t, fs) n) H1 := by
  refine ⟨by rw [z, hP.1]; rfl, Nat.le_succ_of_le hP.2.1, fun b t2 f2 hb => ?_⟩
  by_cases hab : b = h.2.1
  · have : some (t, fs) = some (t2, f2) := by rw [← hb]; simp [am_new, hab]
    cases this
    rw [hab, ← hP.1]
    exact he
  · have : h.1 b = some (t2, f2) := by rw [← hb]; simp [am_new, hab]
    have h2 := hP.2.2 b t2 f2 this
    exact h2.kept (oq b h2.lt)
theorem am_arr {cA : ClassId} {N : Nat} {f g : Nat → Value} (h : ∀ j, j < N → f j = g j) : arrV cA N f = arrV cA N g := by
  unfold arrV
  congr 2
  funext j
  exact h j.val j.isLt
theorem am_vV {fs : List Value} {k : Nat} {v : Value} (h : fs[k]? = some v) : vp_V fs k = v := by
  simp [vp_V, List.getD_eq_getElem?_getD, h]
theorem am_set {fs : List Value} {k : Nat} {cA : ClassId} (v : Value) (hk : k < fs.length) : (arrV cA fs.length (vp_V fs)).setSlot k v = arrV cA (fs.set k v).length (vp_V (fs.set k v)) := by
  rw [arrV_store, List.length_set]
  exact am_arr fun j _ => vp_updV_set hk v j
/-! locals -/
def am_lv (ls : Array Slot) (nL : Nat) (L : List Value) : Prop := ls.size = nL ∧ lv_wf ls ∧ L.length = nL ∧ ∀ (i : Nat) (v : Value), L[i]? = some v → (∀ z, v ≠ .retAddr z) → ls[i]? = some (.val v)
def am_ps (L : List Value) : List (Nat × Value) := L.zipIdx.filterMap (fun q => match q.1 with
  | .retAddr _ => none
  | v => some (q.2, v))
theorem am_ps_of {L : List Value} {i : Nat} {v : Value} (h : L[i]? = some v) (hv : ∀ z, v ≠ .retAddr z) : (i, v) ∈ am_ps L := by
  refine List.mem_filterMap.mpr ⟨(v, i), ?_, ?_⟩
  · exact List.mem_zipIdx_iff_getElem?.mpr h
  · cases v <;> first | rfl | exact absurd rfl (hv _)
theorem am_ps_to {L : List Value} {q : Nat × Value} (h : q ∈ am_ps L) : L[q.1]? = some q.2 ∧ ∀ z, q.2 ≠ .retAddr z := by
  obtain ⟨⟨v, i⟩, h1, h2⟩ := List.mem_filterMap.mp h
  have h3 := List.mem_zipIdx_iff_getElem?.mp h1
  cases v <;> first | (cases h2; exact ⟨h3, fun z hz => by cases hz⟩) | cases h2
theorem am_lv.has {ls : Array Slot} {nL : Nat} {L : List Value} (h : am_lv ls nL L) : lv_has ls nL (am_ps L) := ⟨h.1, h.2.1, fun q hq => h.2.2.2 q.1 q.2 (am_ps_to hq).1 (am_ps_to hq).2⟩
theorem am_lv.get {ls : Array Slot} {nL i : Nat} {L : List Value} {v : Value} (h : am_lv ls nL L) (hi : L[i]? = some v) (hv : ∀ z, v ≠ .retAddr z) : ls[i]? = some (.val v) := h.2.2.2 i v hi hv
theorem am_clr_len (L : List Value) (i : Nat) : (am_clr L i).length = L.length := by
  cases i with
  | zero => rfl
  | succ j =>
    simp only [am_clr]
    split
    · split <;> simp
    · rfl
/-- behind the clearing of a long that ends at i -/
theorem am_clr_get {L : List Value} {i j : Nat} {w : Value} (h : (am_clr L i)[j]? = some w) (hw : ∀ z, w ≠ .retAddr z) : L[j]? = some w ∧ ¬ (j + 1 = i ∧ w.category = 2) := by
  cases i with
  | zero => exact ⟨h, by omega⟩
  | succ k =>
    simp only [am_clr] at h
    split at h
    · rename_i u hu
      split at h
      · by_cases hjk : j = k
        · subst hjk
          have hlt : j < L.length := (List.getElem?_eq_some_iff.mp hu).1
          rw [List.getElem?_set_self hlt] at h
          cases h
          exact absurd rfl (hw _)
        · rw [List.getElem?_set_ne (Ne.symm hjk)] at h
          exact ⟨h, by omega⟩
      · rename_i hc
        refine ⟨h, fun q => ?_⟩
        have : j = k := by omega
        subst this
        rw [hu] at h
        cases h
        exact hc q.2
    · rename_i hn
      refine ⟨h, fun q => ?_⟩
      have : j = k := by omega
      subst this
      rw [hn] at h
      cases h
theorem am_st1_lv {ls' : Array Slot} {nL i : Nat} {L : List Value} {v : Value} (hlen : L.length = nL) (h : lv_has ls' nL ((i, v) :: (am_ps L).filter (fun q => !(q.1 == i) && !(q.1 + 1 == i && q.2.category == 2)))) : am_lv ls' nL (am_st1 L i v) := by
  refine ⟨h.1, h.2.1, by rw [am_st1, List.length_set, am_clr_len, hlen], fun j w hj hw => ?_⟩
  unfold am_st1 at hj
  by_cases hji : j = i
  · subst hji
    have hlt : j < (am_clr L j).length := by
      have := (List.getElem?_eq_some_iff.mp hj).1
      rwa [List.length_set] at this
    rw [List.getElem?_set_self hlt] at hj
    cases hj
    exact h.2.2 (j, v) List.mem_cons_self
  · rw [List.getElem?_set_ne (Ne.symm hji)] at hj
    obtain ⟨h1, h2⟩ := am_clr_get hj hw
    refine h.2.2 (j, w) (List.mem_cons_of_mem _ (List.mem_filter.mpr ⟨am_ps_of h1 hw, ?_⟩))
    simp only [Bool.and_eq_true, Bool.not_eq_true', beq_eq_false_iff_ne, ne_eq, Bool.and_eq_false_iff]
    refine ⟨hji, ?_⟩
    by_cases q1 : j + 1 = i
    · exact Or.inr (fun q2 => h2 ⟨q1, q2⟩)
    · exact Or.inl q1
theorem am_st2_lv {ls' : Array Slot} {nL i : Nat} {L : List Value} {v : Value} (hlen : L.length = nL) (h : lv_has ls' nL ((i, v) :: (am_ps L).filter (fun q => !(q.1 == i) && (!(q.1 == i + 1) && !(q.1 + 1 == i && q.2.category == 2))))) : am_lv ls' nL (am_st2 L i v) := by
  refine ⟨h.1, h.2.1, by rw [am_st2, List.length_set, List.length_set, am_clr_len, hlen], fun j w hj hw => ?_⟩
  unfold am_st2 at hj
  by_cases hj1 : j = i + 1
  · subst hj1
    have hlt : i + 1 < ((am_clr L i).set i v).length := by
      have := (List.getElem?_eq_some_iff.mp hj).1
      rwa [List.length_set] at this
    rw [List.getElem?_set_self hlt] at hj
    cases hj
    exact absurd rfl (hw _)
  · rw [List.getElem?_set_ne (Ne.symm hj1)] at hj
    by_cases hji : j = i
    · subst hji
      have hlt : j < (am_clr L j).length := by
        have := (List.getElem?_eq_some_iff.mp hj).1
        rwa [List.length_set] at this
      rw [List.getElem?_set_self hlt] at hj
      cases hj
      exact h.2.2 (j, v) List.mem_cons_self
    · rw [List.getElem?_set_ne (Ne.symm hji)] at hj
      obtain ⟨h1, h2⟩ := am_clr_get hj hw
      refine h.2.2 (j, w) (List.mem_cons_of_mem _ (List.mem_filter.mpr ⟨am_ps_of h1 hw, ?_⟩))
      simp only [Bool.and_eq_true, Bool.not_eq_true', beq_eq_false_iff_ne, ne_eq, Bool.and_eq_false_iff]
      refine ⟨hji, hj1, ?_⟩
      by_cases q1 : j + 1 = i
      · exact Or.inr (fun q2 => h2 ⟨q1, q2⟩)
      · exact Or.inl q1
theorem am_tg_eq {pc : Nat} {off : Int} (h : am_tok pc off = true) : (pc : Int) + off = (am_tg pc off : Int) := by
  unfold am_tok at h
  have := of_decide_eq_true h
  unfold am_tg
  omega
/-- what stands fast while a method runs -/
def am_Cx (D : am_D) (p : Program) (s : State) (m : MethodId) (args : Array Value) (meth : Method) (c : Code) (M : Mth) : Prop :=
  p.tables.exec = Jvm.exec ∧ c.code = M.2.2.1 ∧ c.maxLocals = M.2.2.2.1 ∧ meth.sig.returnType = M.2.2.2.2 ∧ meth.locks = false ∧ s.vm.findClass (am_R M.1) = some m.cls ∧ (∀ w ∈ lw_good, w.before args s = true) ∧ am_K D s ∧ meth.name = M.2.1.name ∧ M.1 < 16
/-- the real machine, wherever the small one stands at pc, comes to Q -/
def am_V (p : Program) (l : Launch) (e : Env) (R : Room) (s : State) (m : MethodId) (args : Array Value) (below : List Frame) (meth : Method) (c : Code) (Q : State → Prop) (D : am_D) (B : Nat) (M : Mth) (cells slots pc : Nat) (L S : List Value) (h : Hp) : Prop :=
  ∀ (H : Heap) (locs : List Loc) (ls : Array Slot), am_P D B h H → am_lv ls M.2.2.2.1 L → (∀ q ∈ locs, B ≤ q.base) → W p l e R s m args below meth c H locs cells slots Q (F0 m pc ls S)
