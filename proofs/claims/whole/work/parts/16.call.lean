/-! ends, calls, runs -/
def am_Qc (D : am_D) (B : Nat) (r : Option Value) (h : Hp) : Array Value → State → Outcome → State → Prop := fun _ _ o t => o = .returned r ∧ am_P D B h t.heap ∧ am_K D t
theorem am_s_mono {B : Nat} {M : Mth} {ins : Instr} {pc pc2 : Nat} {L S L2 S2 : List Value} {h h2 : Hp} (hs : am_s B M ins pc L S h = some (pc2, L2, S2, h2)) : h.2.1 ≤ h2.2.1 ∧ h.2.2 ≤ h2.2.2 := by
  cases ins
  case ldc => simp only [am_s] at hs; rw [Option.bind_eq_some_iff] at hs; obtain ⟨v, -, hs⟩ := hs; cases hs; exact ⟨Nat.le_refl _, Nat.le_refl _⟩
  case ldc_w => simp only [am_s] at hs; rw [Option.bind_eq_some_iff] at hs; obtain ⟨v, -, hs⟩ := hs; cases hs; exact ⟨Nat.le_refl _, Nat.le_refl _⟩
  case ldc2_w => simp only [am_s] at hs; rw [Option.bind_eq_some_iff] at hs; obtain ⟨v, -, hs⟩ := hs; cases hs; exact ⟨Nat.le_refl _, Nat.le_refl _⟩
  case new => simp only [am_s] at hs; rw [Option.bind_eq_some_iff] at hs; obtain ⟨v, -, hs⟩ := hs; cases hs; exact ⟨Nat.le_add_right _ _, Nat.le_add_right _ _⟩
  case anewarray => simp only [am_s] at hs; rw [Option.bind_eq_some_iff] at hs; obtain ⟨v, -, hs⟩ := hs; simp only [am_newa] at hs; split at hs <;> (try split at hs) <;> cases hs; exact ⟨Nat.le_add_right _ _, Nat.le_add_right _ _⟩
  all_goals first
    | (exact absurd (show (none : Option (Nat × List Value × List Value × Hp)) = some _ from hs) (fun z => by cases z))
    | (simp only [am_s, am_i1, am_i2, am_l2, am_ldi, am_ldl, am_lda, am_sti, am_sta, am_stl, am_inc, am_getf, am_putf, am_ald, am_iast, am_last, am_aast, am_alen, am_newa, am_nul, am_jp] at hs
       repeat' split at hs
       all_goals first
         | (cases hs; exact ⟨Nat.le_refl _, Nat.le_refl _⟩)
         | (cases hs; exact ⟨Nat.le_add_right _ _, Nat.le_add_right _ _⟩)
         | cases hs)
theorem am_bi_mono {B mode : Nat} {vs : List Value} {h h1 : Hp} {r : Option Value} (hs : am_bi B mode vs h = some (r, h1)) : h.2.1 ≤ h1.2.1 ∧ h.2.2 ≤ h1.2.2 := by
  simp only [am_bi] at hs
  repeat' split at hs
  all_goals first
    | (cases hs; exact ⟨Nat.le_refl _, Nat.le_refl _⟩)
    | cases hs
theorem am_mono {O : Nat → List Value → Hp → Option (Option Value × Hp)} {B : Nat} (hO : ∀ (mode : Nat) (vs : List Value) (h : Hp) (r : Option Value) (h1 : Hp), O mode vs h = some (r, h1) → h.2.1 ≤ h1.2.1 ∧ h.2.2 ≤ h1.2.2) :
    ∀ (F d : Nat) (M : Mth) (pc : Nat) (L S : List Value) (h : Hp) (r : Option Value) (h2 : Hp), am O B F d M pc L S h = some (r, h2) → h.2.1 ≤ h2.2.1 ∧ h.2.2 ≤ h2.2.2 := by
  intro F
  induction F with
  | zero => intro d M pc L S h r h2 hs; cases hs
  | succ F ih =>
    intro d M pc L S h r h2 hs
    simp only [am] at hs
    split at hs
    · cases hs
    · split at hs
      rotate_left
      · cases hs
      split at hs
      · split at hs
        rotate_left
        · cases hs
        split at hs
        rotate_left
        · cases hs
        split at hs
        rotate_left
        · cases hs
        rename_i r1 h1 hq
        have h3 := ih _ _ _ _ _ _ _ _ hs
        have h4 : h.2.1 ≤ h1.2.1 ∧ h.2.2 ≤ h1.2.2 := by
          split at hq
          · exact ih _ _ _ _ _ _ _ _ hq
          · split at hq
            · exact am_bi_mono hq
            · exact hO _ _ _ _ _ hq
        omega
      · split at hs
        · cases hs; exact ⟨Nat.le_refl _, Nat.le_refl _⟩
        · split at hs
          rotate_left
          · cases hs
          rename_i hq
          have h3 := ih _ _ _ _ _ _ _ _ hs
          have h4 := am_s_mono hq
          omega
theorem am_sl_len (vs : List Value) : (am_sl vs).length = (lg_sl vs).length := by
  induction vs with
  | nil => rfl
  | cons v t ih =>
    simp only [am_sl, lg_sl, List.flatMap_cons, List.length_append] at ih ⊢
    rw [ih]
    split <;> rfl
theorem am_sl_get : ∀ (vs : List Value) (i : Nat) (v : Value), (am_sl vs)[i]? = some v → (∀ z, v ≠ .retAddr z) → (lg_sl vs)[i]? = some (.val v)
  | [], i, v, h, _ => by simp [am_sl] at h
  | w :: t, i, v, h, hv => by
    have ih := am_sl_get t
    simp only [am_sl, lg_sl, List.flatMap_cons] at ih h ⊢
    by_cases hc : w.category = 2
    · rw [if_pos hc] at h ⊢
      match i with
      | 0 => simp at h; subst h; rfl
      | 1 => simp at h; exact absurd h.symm (hv 0)
      | i + 2 =>
        simp only [List.cons_append, List.nil_append, List.getElem?_cons_succ] at h ⊢
        exact ih i v h hv
    · rw [if_neg hc] at h ⊢
      match i with
      | 0 => simp at h; subst h; rfl
      | i + 1 =>
        simp only [List.cons_append, List.nil_append, List.getElem?_cons_succ] at h ⊢
        exact ih i v h hv
theorem am_loc_lv (vs : List Value) {n : Nat} (hn : (am_sl vs).length ≤ n) : am_lv ((lg_sl vs ++ List.replicate (n - (lg_sl vs).length) Slot.unset).toArray) n (am_loc vs n) := by
  have he := lv_entry vs (n := n) (by rw [← am_sl_len]; exact hn)
  refine ⟨he.1, he.2.1, by rw [am_loc, List.length_append, List.length_replicate]; omega, fun i v h hv => ?_⟩
  unfold am_loc at h
  by_cases hi : i < (am_sl vs).length
  · rw [List.getElem?_append_left hi] at h
    have := am_sl_get vs i v h hv
    simp only [List.getElem?_toArray]
    rw [List.getElem?_append_left (by rw [← am_sl_len]; exact hi)]
    exact this
  · rw [List.getElem?_append_right (by omega), List.getElem?_replicate] at h
    split at h
    · cases h; exact absurd rfl (hv 0)
    · cases h
theorem am_take {S : List Value} {n : Nat} {vs : List Value} (h : (S.take n).reverse = vs) : S = vs.reverse ++ S.drop n := by
  rw [← h, List.reverse_reverse, List.take_append_drop]
theorem am_goodIn {ws : List Cond} (h : ∀ w ∈ ws, w ∈ lw_good) : GoodIn lw_good ws := fun w hw => ⟨h w hw, good_of_word (am_good w (h w hw))⟩
section CALL
variable {p : Program} {l : Launch} {e : Env} {R : Room} {s : State} {m : MethodId} {args : Array Value} {below : List Frame} {meth : Method} {c : Code} {Q : State → Prop} {D : am_D} {B : Nat} {M : Mth} {cells slots pc : Nat} {L S : List Value} {h : Hp}
theorem am_ret_sim {ins : Instr} {len : Nat} {r : Option Value} (X : am_Cx D p s m args meth c M) (hdg : decode M.2.2.1 pc = .ok (ins, len)) (hlk : am_lok ins len = true) (hr : am_ret M ins S = some r) : am_V p l e R s m args below meth c (MQ below (am_Qc D B r h) args s cells slots (fun q => B ≤ q)) D B M cells slots pc L S h := by
  obtain ⟨hx, hb, hml, hret, hlocks, hown, hts, hK, hnm, hM⟩ := X
  intro H locs ls hP hL hF
  have hq : ∀ (v : Option Value) (t : State), t.heap = H → s.WarmedH t.vm → am_Qc D B v h args s (.returned v) t := fun v t h1 h2 => ⟨rfl, by rw [h1]; exact hP, hK.moved h2⟩
  cases ins
  case ireturn =>
    obtain rfl := eq_of_beq (show (len == 1) = true from hlk)
    simp only [am_ret] at hr
    split at hr
    · rename_i v ty hty
      split at hr
      · rename_i hn
        cases hr
        exact W.zret hx hb (hret.trans hty) hn (hq _) hF hdg hlocks
      · cases hr
    · cases hr
  case lreturn =>
    obtain rfl := eq_of_beq (show (len == 1) = true from hlk)
    simp only [am_ret] at hr
    split at hr
    · rename_i v hty
      cases hr
      exact W.lret hx hb (hret.trans hty) (hq _) hF hdg hlocks
    · cases hr
  case areturn =>
    obtain rfl := eq_of_beq (show (len == 1) = true from hlk)
    simp only [am_ret] at hr
    split at hr
    · rename_i v nm hty
      split at hr
      · rename_i hv
        cases hr
        refine W.aret hx hb (hret.trans hty) (Or.inl ⟨_, rfl⟩) ?_ (hq _) hF hdg hlocks
        cases v <;> first | exact Or.inl rfl | exact Or.inr ⟨_, rfl⟩ | cases hv
      · cases hr
    · cases hr
  case return_ =>
    obtain rfl := eq_of_beq (show (len == 1) = true from hlk)
    simp only [am_ret] at hr
    split at hr
    · rename_i hty
      cases hr
      exact W.vret hx hb (hret.trans hty) (hq _) hF hdg hlocks
    · cases hr
  all_goals exact absurd (show (none : Option (Option Value)) = some _ from hr) (fun z => by cases z)
/-- behind a call -/
theorem am_cont {H : Heap} {locs : List Loc} {ls : Array Slot} {mc ms : Nat} {rest : List Value} {r1 : Option Value} {h1 : Hp} {a : Array Value} (hr : va_Run p l e R s m args below meth c H locs cells slots mc ms (F0 m pc ls S) rest (am_Qc D B r1 h1 a) (fun q => B ≤ q)) (hL : am_lv ls M.2.2.2.1 L) (hF : ∀ q ∈ locs, B ≤ q.base)
    (k : am_V p l e R s m args below meth c Q D B M (cells + mc) (slots + ms) (pc + 3) L (r1.toList ++ rest) h1) : W p l e R s m args below meth c H locs cells slots Q (F0 m pc ls S) := by
  intro T hT X
  obtain ⟨v, st₀, t, T', L', h0, X', hL', e1, e2, ⟨hv, hP, hK⟩, st⟩ := hr T hT X
  cases hv
  obtain ⟨t2, a1, b1⟩ := k T'.heap (locs ++ L') ls (by rw [e1]; exact hP) hL (fun q hq => by
    rcases List.mem_append.mp hq with z | z
    · exact hF q z
    · exact hL' q z) T' rfl X'
  exact ⟨t2, st t2 a1, b1⟩
end CALL
def am_Sim (l : Launch) (D : am_D) (O : Nat → List Value → Hp → Option (Option Value × Hp)) (B F : Nat) : Prop := ∀ (d : Nat) (M : Mth) (pc : Nat) (L S : List Value) (h : Hp) (r : Option Value) (h2 : Hp), am O B F d M pc L S h = some (r, h2) →
  ∀ (p : Program) (e : Env) (R : Room) (s : State) (m : MethodId) (args : Array Value) (below : List Frame) (meth : Method) (c : Code) (cells slots : Nat), am_Cx D p s m args meth c M → d ≤ R.frames → 100 * d ≤ R.locals → cells + (h2.2.1 - h.2.1) ≤ R.cells → slots + (h2.2.2 - h.2.2) ≤ R.slots →
    am_V p l e R s m args below meth c (MQ below (am_Qc D B r h2) args s (cells + (h2.2.1 - h.2.1)) (slots + (h2.2.2 - h.2.2)) (fun q => B ≤ q)) D B M cells slots pc L S h
/-- what is asked of the calls that the small machine does not walk -/
def am_Or (l : Launch) (D : am_D) (O : Nat → List Value → Hp → Option (Option Value × Hp)) (B : Nat) : Prop := ∀ (mode : Nat) (vs : List Value) (h : Hp) (r : Option Value) (h1 : Hp), O mode vs h = some (r, h1) → (h.2.1 ≤ h1.2.1 ∧ h.2.2 ≤ h1.2.2) ∧
  ∀ (p : Program) (e : Env) (R : Room) (s : State) (m : MethodId) (args : Array Value) (below : List Frame) (meth : Method) (c : Code) (M C : Mth) (pc op i n d cells slots : Nat) (ts : List Nat) (ins : Instr) (rest L : List Value) (H : Heap) (locs : List Loc) (ls : Array Slot),
    9 < mode → 20 ≤ d → am_Cx D p s m args meth c M → M.1 = 13 → decode M.2.2.1 pc = .ok (ins, 3) → am_op ins = some (op, i) → am_inv M.1 op i = some (mode, n, ts, C) → vs.length = n → am_rc mode ts vs h = true → d + 1 ≤ R.frames → 100 * (d + 1) ≤ R.locals →
    cells + (h1.2.1 - h.2.1) ≤ R.cells → slots + (h1.2.2 - h.2.2) ≤ R.slots → am_cats rest ≤ 8 → am_P D B h H → am_lv ls M.2.2.2.1 L → (∀ q ∈ locs, B ≤ q.base) →
    va_Run p l e R s m args below meth c H locs cells slots (h1.2.1 - h.2.1) (h1.2.2 - h.2.2) (F0 m pc ls (vs.reverse ++ rest)) rest (am_Qc D B r h1 vs.toArray) (fun q => B ≤ q)
def am_rm (d : Nat) (h h2 : Hp) : Room := { frames := d, cells := h2.2.1 - h.2.1, slots := h2.2.2 - h.2.2, locals := 100 * d }
abbrev am_ws (C : Mth) : List Cond := Cond.code C.2.1 C.2.2.1 C.2.2.2.1 C.2.2.2.2 :: lw_good
def am_Pc (D : am_D) (B : Nat) (vs : List Value) (h : Hp) : Array Value → State → Prop := va_Pc vs (fun U => am_P D B h U.heap ∧ am_K D U)
theorem am_met {l : Launch} {D : am_D} {O : Nat → List Value → Hp → Option (Option Value × Hp)} {B F d : Nat} {C : Mth} {vs : List Value} {h h2 : Hp} {r : Option Value} (hS : am_Sim l D O B F) (hrun : am O B F d C 0 (am_loc vs C.2.2.2.1) [] h = some (r, h2)) (hpl : plainName C.2.1.cls = true) (hcl : C.2.1.cls = am_R C.1) (h16 : C.1 < 16) (hsl : (am_sl vs).length ≤ C.2.2.2.1) :
    Met l C.2.1 (am_ws C) (am_rm d h h2) (am_Pc D B vs h) (am_Qc D B r h2) (h2.2.1 - h.2.1) (h2.2.2 - h.2.2) (fun q => B ≤ q) := by
  refine Met.ofW (cc := C.2.2.1) (maxL := C.2.2.2.1) (ret := C.2.2.2.2) hpl rfl ?_
  intro p e s m args below meth c s₁ Bd hml hv
  obtain ⟨rfl, hP, hK⟩ := hv
  have hts := atoms_spec (ws := am_ws C) Bd.pre
  have X : am_Cx D p s m vs.toArray meth c C := ⟨Bd.exec, Bd.bytes, hml, Bd.returns, Bd.notSynchronized, hcl ▸ findClass_of_methodNamed Bd.named, fun w hw => hts w (List.mem_cons_of_mem _ hw), hK, (name_of_methodNamed Bd.named Bd.method).1, h16⟩
  have k := hS d C 0 _ _ h r h2 hrun p e (headSpec (am_ws C) (am_rm d h h2)).room s m vs.toArray below meth c 0 0 X (Nat.le_refl _) (Nat.le_refl _) (by rw [Nat.zero_add]; exact Nat.le_refl _) (by rw [Nat.zero_add]; exact Nat.le_refl _)
  rw [Nat.zero_add, Nat.zero_add] at k
  rw [lg_entry_eq]
  exact k s.heap [] _ hP (am_loc_lv vs hsl) (fun q hq => by cases hq)
theorem am_blind {D : am_D} {B : Nat} {vs : List Value} {h : Hp} : FrameBlind (am_Pc D B vs h) := fun a U g mk q => ⟨q.1, q.2.1, q.2.2.moved (State.WarmedH.refl U)⟩
