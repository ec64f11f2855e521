/-! calls that throw and catch: the law's own run with them (by hand) -/
abbrev am_none : Nat → List Value → Hp → Option (Option Value × Hp) := fun _ _ _ => none
theorem am_Or_none {l : Launch} {D : am_D} {B : Nat} : am_Or l D am_none B := by
  intro mode vs h r h1 e
  cases e
def n13 (o : Nat) (e : Nat × Nat × Nat × Nat × List Nat × Mth × List Nat) : Bool := (decide (4 < e.2.2.1) || decide (e.2.2.2.2.2.1.1 ≠ 13)) && (decide (e.2.2.1 ≤ 9) || decide (o = 13))
theorem n13_ok : ∀ o, (am_cl o).all (n13 o) = true := by
  intro o
  match o with
  | 0 => decide +kernel
  | 1 => decide +kernel
  | 2 => decide +kernel
  | 3 => decide +kernel
  | 4 => decide +kernel
  | 5 => decide +kernel
  | 6 => decide +kernel
  | 7 => decide +kernel
  | 8 => decide +kernel
  | 9 => decide +kernel
  | 10 => decide +kernel
  | 11 => decide +kernel
  | 12 => decide +kernel
  | 13 => decide +kernel
  | 14 => rfl
  | 15 => rfl
  | n + 16 => rfl
theorem inv_n13 {o op i mode n : Nat} {ts : List Nat} {C : Mth} (h : am_inv o op i = some (mode, n, ts, C)) : (mode ≤ 4 → C.1 ≠ 13) ∧ (9 < mode → o = 13) := by
  unfold am_inv at h
  rw [Option.map_eq_some_iff] at h
  obtain ⟨q, hq, hv⟩ := h
  have hck := List.all_eq_true.mp (n13_ok o) q (List.mem_of_find?_eq_some hq)
  obtain ⟨q1, q2, q3, q4, q5, q6, q7⟩ := q
  cases hv
  simp only [n13, Bool.and_eq_true, Bool.or_eq_true, decide_eq_true_eq] at hck
  obtain ⟨a, b⟩ := hck
  refine ⟨fun h4 => ?_, fun h9 => ?_⟩
  · rcases a with a | a
    · exact absurd (show 4 < q3 from a) (by have h5 : q3 ≤ 4 := h4; omega)
    · exact a
  · rcases b with b | b
    · exact absurd (show q3 ≤ 9 from b) (by have h5 : 9 < q3 := h9; omega)
    · exact b
theorem am_no13 {O O2 : Nat → List Value → Hp → Option (Option Value × Hp)} {B : Nat} : ∀ (F d : Nat) (M : Mth) (pc : Nat) (L S : List Value) (h : Hp), M.1 ≠ 13 → am O B F d M pc L S h = am O2 B F d M pc L S h := by
  intro F
  induction F with
  | zero => intro d M pc L S h _; rfl
  | succ F ih =>
    intro d M pc L S h hM
    cases hde : decode M.2.2.1 pc with
    | error _ => simp only [am, hde]
    | ok q =>
      obtain ⟨ins, len⟩ := q
      simp only [am, hde]
      by_cases hl : am_lok ins len = true
      rotate_left
      · rw [if_neg hl, if_neg hl]
      rw [if_pos hl, if_pos hl]
      cases ho : am_op ins with
      | some q =>
        obtain ⟨op, i⟩ := q
        simp only
        cases d with
        | zero => rfl
        | succ d =>
          cases hi : am_inv M.1 op i with
          | none => rfl
          | some q =>
            obtain ⟨mode, n, ts, C⟩ := q
            simp only
            obtain ⟨n1, n2⟩ := inv_n13 hi
            by_cases hc : n ≤ S.length ∧ am_cats (S.drop n) ≤ 8 ∧ am_rc mode ts (S.take n).reverse h = true ∧ (mode ≤ 4 → (am_sl (S.take n).reverse).length ≤ C.2.2.2.1) ∧ (9 < mode → 20 ≤ d)
            rotate_left
            · rw [if_neg hc, if_neg hc]
            rw [if_pos hc, if_pos hc]
            have e : (if mode ≤ 4 then am O B F d C 0 (am_loc (S.take n).reverse C.2.2.2.1) [] h else if mode ≤ 9 then am_bi B mode (S.take n).reverse h else O mode (S.take n).reverse h) = (if mode ≤ 4 then am O2 B F d C 0 (am_loc (S.take n).reverse C.2.2.2.1) [] h else if mode ≤ 9 then am_bi B mode (S.take n).reverse h else O2 mode (S.take n).reverse h) := by
              by_cases c1 : mode ≤ 4
              · rw [if_pos c1, if_pos c1]
                exact ih _ _ _ _ _ _ (n1 c1)
              · rw [if_neg c1, if_neg c1]
                by_cases c2 : mode ≤ 9
                · rw [if_pos c2, if_pos c2]
                · exact absurd (n2 (by omega)) hM
            rw [e]
            cases (if mode ≤ 4 then am O2 B F d C 0 (am_loc (S.take n).reverse C.2.2.2.1) [] h else if mode ≤ 9 then am_bi B mode (S.take n).reverse h else O2 mode (S.take n).reverse h) with
            | none => rfl
            | some z =>
              obtain ⟨r, h1⟩ := z
              exact ih _ _ _ _ _ _ hM
      | none =>
        simp only
        cases am_ret M ins S with
        | some r => rfl
        | none =>
          simp only
          cases am_s B M ins pc L S h with
          | none => rfl
          | some z =>
            obtain ⟨pc1, L1, S1, h1⟩ := z
            exact ih _ _ _ _ _ _ hM
/-- what is asked of the calls that throw and catch, in the law that began in s -/
def am_OrS (l : Launch) (D : am_D) (O : Nat → List Value → Hp → Option (Option Value × Hp)) (B : Nat) (s : State) : Prop := ∀ (mode : Nat) (vs : List Value) (h : Hp) (r : Option Value) (h1 : Hp), O mode vs h = some (r, h1) → (h.2.1 ≤ h1.2.1 ∧ h.2.2 ≤ h1.2.2) ∧
  ∀ (p : Program) (e : Env) (R : Room) (m : MethodId) (args : Array Value) (below : List Frame) (meth : Method) (c : Code) (C : Mth) (pc op i n d cells slots : Nat) (ts : List Nat) (ins : Instr) (rest L : List Value) (H : Heap) (locs : List Loc) (ls : Array Slot),
    9 < mode → 20 ≤ d → am_Cx D p s m args meth c mL_law → decode mL_law.2.2.1 pc = .ok (ins, 3) → am_op ins = some (op, i) → am_inv 13 op i = some (mode, n, ts, C) → vs.length = n → am_rc mode ts vs h = true → d + 1 ≤ R.frames → 100 * (d + 1) ≤ R.locals →
    cells + (h1.2.1 - h.2.1) ≤ R.cells → slots + (h1.2.2 - h.2.2) ≤ R.slots → am_cats rest ≤ 8 → am_P D B h H → am_lv ls mL_law.2.2.2.1 L → (∀ q ∈ locs, B ≤ q.base) →
    va_Run p l e R s m args below meth c H locs cells slots (h1.2.1 - h.2.1) (h1.2.2 - h.2.2) (F0 m pc ls (vs.reverse ++ rest)) rest (am_Qc D B r h1 vs.toArray) (fun q => B ≤ q)
theorem am_simX {l : Launch} {D : am_D} {O : Nat → List Value → Hp → Option (Option Value × Hp)} {B : Nat} {s : State} (hO : am_OrS l D O B s) : ∀ (F d pc : Nat) (L S : List Value) (h : Hp) (r : Option Value) (h2 : Hp), am O B F d mL_law pc L S h = some (r, h2) →
  ∀ (p : Program) (e : Env) (R : Room) (m : MethodId) (args : Array Value) (below : List Frame) (meth : Method) (c : Code) (cells slots : Nat), am_Cx D p s m args meth c mL_law → d ≤ R.frames → 100 * d ≤ R.locals → cells + (h2.2.1 - h.2.1) ≤ R.cells → slots + (h2.2.2 - h.2.2) ≤ R.slots →
    am_V p l e R s m args below meth c (MQ below (am_Qc D B r h2) args s (cells + (h2.2.1 - h.2.1)) (slots + (h2.2.2 - h.2.2)) (fun q => B ≤ q)) D B mL_law cells slots pc L S h := by
  have hmono := am_mono (B := B) (fun mode vs h r h1 q => (hO mode vs h r h1 q).1)
  intro F
  induction F with
  | zero => intro d pc L S h r h2 hs; cases hs
  | succ F ih =>
    intro d pc L S h r h2 hs p e R m args below meth c cells slots X hfr hlo hcl hsl
    simp only [am] at hs
    split at hs
    · cases hs
    rename_i ins len hdg
    split at hs
    rotate_left
    · cases hs
    rename_i hlk
    split at hs
    · rename_i op i hop
      have hlen : len = 3 := by
        cases ins <;> first | (exact eq_of_beq (show (len == 3) = true from hlk)) | cases hop
      subst hlen
      split at hs
      rotate_left
      · cases hs
      rename_i d' mode n ts C hinv
      split at hs
      rotate_left
      · cases hs
      rename_i hc
      split at hs
      rotate_left
      · cases hs
      rename_i r1 h1 hrun
      have m1 := hmono _ _ _ _ _ _ _ _ _ hs
      have m0 : h.2.1 ≤ h1.2.1 ∧ h.2.2 ≤ h1.2.2 := by
        split at hrun
        · exact hmono _ _ _ _ _ _ _ _ _ hrun
        · split at hrun
          · exact am_bi_mono hrun
          · exact (hO _ _ _ _ _ hrun).1
      have k := ih _ _ _ _ _ _ _ hs p e R m args below meth c (cells + (h1.2.1 - h.2.1)) (slots + (h1.2.2 - h.2.2)) X hfr hlo (by omega) (by omega)
      have e1 : cells + (h1.2.1 - h.2.1) + (h2.2.1 - h1.2.1) = cells + (h2.2.1 - h.2.1) := by omega
      have e2 : slots + (h1.2.2 - h.2.2) + (h2.2.2 - h1.2.2) = slots + (h2.2.2 - h.2.2) := by omega
      rw [e1, e2] at k
      by_cases h9 : 9 < mode
      · obtain ⟨hn, hcat, hrc, hslc, hd20⟩ := hc
        have hlen : (S.take n).reverse.length = n := by rw [List.length_reverse, List.length_take]; omega
        have hSS : S = (S.take n).reverse.reverse ++ S.drop n := am_take rfl
        rw [if_neg (by omega), if_neg (by omega)] at hrun
        intro H locs ls hP hL hF
        generalize hvs : (S.take n).reverse = vs at *
        generalize hrest : S.drop n = rest at *
        subst hSS
        exact am_cont ((hO _ _ _ _ _ hrun).2 p e R m args below meth c C pc op i n d' cells slots ts ins rest L H locs ls h9 (hd20 h9) X hdg hop hinv hlen hrc hfr hlo (by omega) (by omega) hcat hP hL hF) hL hF k
      · have hrun2 : (if mode ≤ 4 then am am_none B F d' C 0 (am_loc (S.take n).reverse C.2.2.2.1) [] h else if mode ≤ 9 then am_bi B mode (S.take n).reverse h else am_none mode (S.take n).reverse h) = some (r1, h1) := by
          rw [← hrun]
          by_cases c1 : mode ≤ 4
          · rw [if_pos c1, if_pos c1]
            exact am_no13 _ _ _ _ _ _ _ ((inv_n13 hinv).1 c1)
          · rw [if_neg c1, if_neg c1, if_pos (by omega), if_pos (by omega)]
        exact am_inv_sim (am_sim am_Or_none F) am_Or_none X hdg hop hinv hc hrun2 hfr hlo (by omega) (by omega) k
    · split at hs
      · rename_i r0 hret
        cases hs
        rw [Nat.sub_self, Nat.sub_self]
        exact am_ret_sim X hdg hlk hret
      · split at hs
        rotate_left
        · cases hs
        rename_i pc1 L1 S1 h1 hstep
        have m1 := hmono _ _ _ _ _ _ _ _ _ hs
        have m0 := am_s_mono hstep
        have k := ih _ _ _ _ _ _ _ hs p e R m args below meth c (cells + (h1.2.1 - h.2.1)) (slots + (h1.2.2 - h.2.2)) X hfr hlo (by omega) (by omega)
        have e1 : cells + (h1.2.1 - h.2.1) + (h2.2.1 - h1.2.1) = cells + (h2.2.1 - h.2.1) := by omega
        have e2 : slots + (h1.2.2 - h.2.2) + (h2.2.2 - h1.2.2) = slots + (h2.2.2 - h.2.2) := by omega
        rw [e1, e2] at k
        exact am_s_sim X hdg hlk hstep ⟨by omega, by omega⟩ k
