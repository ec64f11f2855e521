/-! Ex: the small machine, from here, comes to an end with Q; a rule an instruction (by program: wip/whole/gen_ex.py) -/
abbrev am_E : Type := (Nat → List Value → Hp → Option (Option Value × Hp)) × Nat
theorem am_up {O : Nat → List Value → Hp → Option (Option Value × Hp)} {B : Nat} : ∀ (F d : Nat) (M : Mth) (pc : Nat) (L S : List Value) (h : Hp) (z : Option Value × Hp), am O B F d M pc L S h = some z → ∀ (F2 d2 : Nat), F ≤ F2 → d ≤ d2 → am O B F2 d2 M pc L S h = some z := by
  intro F
  induction F with
  | zero => intro d M pc L S h z hs; cases hs
  | succ F ih =>
    intro d M pc L S h z hs F2 d2 hF hd
    obtain ⟨F2, rfl⟩ : ∃ k, F2 = k + 1 := ⟨F2 - 1, by omega⟩
    cases hde : decode M.2.2.1 pc with
    | error _ => simp only [am, hde] at hs; cases hs
    | ok q =>
      obtain ⟨ins, len⟩ := q
      simp only [am, hde] at hs ⊢
      by_cases hl : am_lok ins len = true
      rotate_left
      · rw [if_neg hl] at hs; cases hs
      rw [if_pos hl] at hs ⊢
      cases ho : am_op ins with
      | some q =>
        obtain ⟨op, i⟩ := q
        simp only [ho] at hs ⊢
        cases d with
        | zero => cases hs
        | succ d =>
          obtain ⟨d2, rfl⟩ : ∃ k, d2 = k + 1 := ⟨d2 - 1, by omega⟩
          cases hi : am_inv M.1 op i with
          | none => simp only [hi] at hs; cases hs
          | some q =>
            obtain ⟨mode, n, ts, C⟩ := q
            simp only [hi] at hs ⊢
            split at hs
            rotate_left
            · cases hs
            rename_i hc
            rw [if_pos ⟨hc.1, hc.2.1, hc.2.2.1, hc.2.2.2.1, fun q => by have := hc.2.2.2.2 q; omega⟩]
            split at hs
            rotate_left
            · cases hs
            rename_i r1 h1 hr
            have e : (if mode ≤ 4 then am O B F2 d2 C 0 (am_loc (S.take n).reverse C.2.2.2.1) [] h else if mode ≤ 9 then am_bi B mode (S.take n).reverse h else O mode (S.take n).reverse h) = some (r1, h1) := by
              by_cases c1 : mode ≤ 4
              · rw [if_pos c1] at hr ⊢
                exact ih _ _ _ _ _ _ _ hr _ _ (by omega) (by omega)
              · rw [if_neg c1] at hr ⊢
                exact hr
            rw [e]
            exact ih _ _ _ _ _ _ _ hs _ _ (by omega) (by omega)
      | none =>
        simp only [ho] at hs ⊢
        cases hr : am_ret M ins S with
        | some r => simp only [hr] at hs ⊢; exact hs
        | none =>
          simp only [hr] at hs ⊢
          split at hs
          rotate_left
          · cases hs
          rename_i hst
          exact ih _ _ _ _ _ _ _ hs _ _ (by omega) (by omega)
def Ex (E : am_E) (d : Nat) (M : Mth) (pc : Nat) (L S : List Value) (h : Hp) (Q : Option Value → Hp → Prop) : Prop := ∃ (F : Nat) (r : Option Value) (h2 : Hp), am E.1 E.2 F d M pc L S h = some (r, h2) ∧ Q r h2
def am_tk (pc : Nat) (off : Int) : Option Nat := if am_tok pc off = true then some (am_tg pc off) else none
theorem am_tk_ok {pc t : Nat} {off : Int} (h : am_tk pc off = some t) : am_tok pc off = true ∧ am_tg pc off = t := by
  unfold am_tk at h
  split at h
  · rename_i q; cases h; exact ⟨q, rfl⟩
  · cases h
section EX
variable {E : am_E} {d : Nat} {M : Mth} {pc q t : Nat} {L S : List Value} {h : Hp} {Q : Option Value → Hp → Prop}
theorem Ex_post {P : Option Value → Hp → Prop} (k : Ex E d M pc L S h P) (hPQ : ∀ r h1, P r h1 → Q r h1) : Ex E d M pc L S h Q := by
  obtain ⟨F, r, h2, e, p⟩ := k
  exact ⟨F, r, h2, e, hPQ r h2 p⟩
theorem Ex_d {d2 : Nat} (k : Ex E d M pc L S h Q) (hd : d ≤ d2) : Ex E d2 M pc L S h Q := by
  obtain ⟨F, r, h2, e, p⟩ := k
  exact ⟨F, r, h2, am_up _ _ _ _ _ _ _ _ e _ _ (Nat.le_refl _) hd, p⟩
theorem Ex_pc (hq : pc = q) (k : Ex E d M q L S h Q) : Ex E d M pc L S h Q := hq ▸ k
theorem Ex_step {ins : Instr} {len : Nat} {L2 S2 : List Value} {h2 : Hp} (hd : decode M.2.2.1 pc = .ok (ins, len)) (hl : am_lok ins len = true) (ho : am_op ins = none) (hr : am_ret M ins S = none) (hs : am_s E.2 M ins pc L S h = some (q, L2, S2, h2)) (k : Ex E d M q L2 S2 h2 Q) : Ex E d M pc L S h Q := by
  obtain ⟨F, r, h3, e, p⟩ := k
  refine ⟨F + 1, r, h3, ?_, p⟩
  simp only [am, hd, hl, ho, hr, hs, if_true]
  exact e
theorem Ex_end {ins : Instr} {len : Nat} {r : Option Value} (hd : decode M.2.2.1 pc = .ok (ins, len)) (hl : am_lok ins len = true) (ho : am_op ins = none) (hr : am_ret M ins S = some r) (p : Q r h) : Ex E d M pc L S h Q := by
  refine ⟨1, r, h, ?_, p⟩
  simp only [am, hd, hl, ho, hr, if_true]
theorem Ex_iconst {n : Int} (hd : decode M.2.2.1 pc = .ok (.iconst n, 1)) (hq : pc + 1 = q)  (k : Ex E d M q L ((.int (i32 n)) :: S) h Q) : Ex E d M pc L S h Q := by
  subst hq
  exact Ex_step hd rfl rfl rfl (rfl) k
theorem Ex_bipush {n : Int} (hd : decode M.2.2.1 pc = .ok (.bipush n, 2)) (hq : pc + 2 = q) (hv : (Int8.ofInt n).toInt32 = i32 n) (k : Ex E d M q L ((.int (i32 n)) :: S) h Q) : Ex E d M pc L S h Q := by
  subst hq
  exact Ex_step hd rfl rfl rfl (by simp only [am_s]; rw [hv]) k
theorem Ex_sipush {n : Int} (hd : decode M.2.2.1 pc = .ok (.sipush n, 3)) (hq : pc + 3 = q) (hv : (Int16.ofInt n).toInt32 = i32 n) (k : Ex E d M q L ((.int (i32 n)) :: S) h Q) : Ex E d M pc L S h Q := by
  subst hq
  exact Ex_step hd rfl rfl rfl (by simp only [am_s]; rw [hv]) k
theorem Ex_lconst {n : Fin 2} {z : Int} (hd : decode M.2.2.1 pc = .ok (.lconst n, 1)) (hq : pc + 1 = q) (hv : Int64.ofNat (n : Nat) = i64 z) (k : Ex E d M q L ((.long (i64 z)) :: S) h Q) : Ex E d M pc L S h Q := by
  subst hq
  exact Ex_step hd rfl rfl rfl (by simp only [am_s]; rw [hv]) k
theorem Ex_null  (hd : decode M.2.2.1 pc = .ok (.aconst_null, 1)) (hq : pc + 1 = q)  (k : Ex E d M q L (.null :: S) h Q) : Ex E d M pc L S h Q := by
  subst hq
  exact Ex_step hd rfl rfl rfl (rfl) k
theorem Ex_ldc {i : Nat} {z : Int} (hd : decode M.2.2.1 pc = .ok (.ldc i, 2)) (hq : pc + 2 = q) (hk : am_k M.1 i = some (i32 z)) (k : Ex E d M q L ((.int (i32 z)) :: S) h Q) : Ex E d M pc L S h Q := by
  subst hq
  exact Ex_step hd rfl rfl rfl (by simp only [am_s, hk]; rfl) k
theorem Ex_ldc_w {i : Nat} {z : Int} (hd : decode M.2.2.1 pc = .ok (.ldc_w i, 3)) (hq : pc + 3 = q) (hk : am_k M.1 i = some (i32 z)) (k : Ex E d M q L ((.int (i32 z)) :: S) h Q) : Ex E d M pc L S h Q := by
  subst hq
  exact Ex_step hd rfl rfl rfl (by simp only [am_s, hk]; rfl) k
theorem Ex_ldc2 {i : Nat} {z : Int} (hd : decode M.2.2.1 pc = .ok (.ldc2_w i, 3)) (hq : pc + 3 = q) (hk : am_k2 M.1 i = some (i64 z)) (k : Ex E d M q L ((.long (i64 z)) :: S) h Q) : Ex E d M pc L S h Q := by
  subst hq
  exact Ex_step hd rfl rfl rfl (by simp only [am_s, hk]; rfl) k
theorem Ex_iload_n {k0 : Fin 4} {x : Int32} (hd : decode M.2.2.1 pc = .ok (.iload_n k0, 1)) (hq : pc + 1 = q) (hi : L[k0.val]? = some (.int x)) (k : Ex E d M q L (.int x :: S) h Q) : Ex E d M pc L S h Q := by
  subst hq
  exact Ex_step hd rfl rfl rfl (by simp only [am_s, am_ldi, hi]) k
theorem Ex_iload {i : Nat} {x : Int32} (hd : decode M.2.2.1 pc = .ok (.iload i, 2)) (hq : pc + 2 = q) (hi : L[i]? = some (.int x)) (k : Ex E d M q L (.int x :: S) h Q) : Ex E d M pc L S h Q := by
  subst hq
  exact Ex_step hd rfl rfl rfl (by simp only [am_s, am_ldi, hi]) k
theorem Ex_lload_n {k0 : Fin 4} {x : Int64} (hd : decode M.2.2.1 pc = .ok (.lload_n k0, 1)) (hq : pc + 1 = q) (hi : L[k0.val]? = some (.long x)) (k : Ex E d M q L (.long x :: S) h Q) : Ex E d M pc L S h Q := by
  subst hq
  exact Ex_step hd rfl rfl rfl (by simp only [am_s, am_ldl, hi]) k
theorem Ex_lload {i : Nat} {x : Int64} (hd : decode M.2.2.1 pc = .ok (.lload i, 2)) (hq : pc + 2 = q) (hi : L[i]? = some (.long x)) (k : Ex E d M q L (.long x :: S) h Q) : Ex E d M pc L S h Q := by
  subst hq
  exact Ex_step hd rfl rfl rfl (by simp only [am_s, am_ldl, hi]) k
theorem Ex_aload_n {k0 : Fin 4} {x : Nat} (hd : decode M.2.2.1 pc = .ok (.aload_n k0, 1)) (hq : pc + 1 = q) (hi : L[k0.val]? = some (.ref x)) (k : Ex E d M q L (.ref x :: S) h Q) : Ex E d M pc L S h Q := by
  subst hq
  exact Ex_step hd rfl rfl rfl (by simp only [am_s, am_lda, hi]) k
theorem Ex_aload_nN {k0 : Fin 4} (hd : decode M.2.2.1 pc = .ok (.aload_n k0, 1)) (hq : pc + 1 = q) (hi : L[k0.val]? = some .null) (k : Ex E d M q L (.null :: S) h Q) : Ex E d M pc L S h Q := by
  subst hq
  exact Ex_step hd rfl rfl rfl (by simp only [am_s, am_lda, hi]) k
theorem Ex_aload {i : Nat} {x : Nat} (hd : decode M.2.2.1 pc = .ok (.aload i, 2)) (hq : pc + 2 = q) (hi : L[i]? = some (.ref x)) (k : Ex E d M q L (.ref x :: S) h Q) : Ex E d M pc L S h Q := by
  subst hq
  exact Ex_step hd rfl rfl rfl (by simp only [am_s, am_lda, hi]) k
theorem Ex_aloadN {i : Nat} (hd : decode M.2.2.1 pc = .ok (.aload i, 2)) (hq : pc + 2 = q) (hi : L[i]? = some .null) (k : Ex E d M q L (.null :: S) h Q) : Ex E d M pc L S h Q := by
  subst hq
  exact Ex_step hd rfl rfl rfl (by simp only [am_s, am_lda, hi]) k
theorem Ex_istore_n {k0 : Fin 4} {x : Int32} {L2 : List Value} (hd : decode M.2.2.1 pc = .ok (.istore_n k0, 1)) (hq : pc + 1 = q) (hi : Nat.blt (k0.val) L.length = true) (hL : am_st1 L k0.val (.int x) = L2) (k : Ex E d M q L2 S h Q) : Ex E d M pc L (.int x :: S) h Q := by
  subst hq
  exact Ex_step hd rfl rfl rfl (by subst hL; simp only [am_s, am_sti]; rw [if_pos (show k0.val < L.length from Nat.le_of_ble_eq_true hi)]) k
theorem Ex_istore {i : Nat} {x : Int32} {L2 : List Value} (hd : decode M.2.2.1 pc = .ok (.istore i, 2)) (hq : pc + 2 = q) (hi : Nat.blt (i) L.length = true) (hL : am_st1 L i (.int x) = L2) (k : Ex E d M q L2 S h Q) : Ex E d M pc L (.int x :: S) h Q := by
  subst hq
  exact Ex_step hd rfl rfl rfl (by subst hL; simp only [am_s, am_sti]; rw [if_pos (show i < L.length from Nat.le_of_ble_eq_true hi)]) k
theorem Ex_lstore_n {k0 : Fin 4} {x : Int64} {L2 : List Value} (hd : decode M.2.2.1 pc = .ok (.lstore_n k0, 1)) (hq : pc + 1 = q) (hi : Nat.blt (k0.val + 1) L.length = true) (hL : am_st2 L k0.val (.long x) = L2) (k : Ex E d M q L2 S h Q) : Ex E d M pc L (.long x :: S) h Q := by
  subst hq
  exact Ex_step hd rfl rfl rfl (by subst hL; simp only [am_s, am_stl]; rw [if_pos (show k0.val + 1 < L.length from Nat.le_of_ble_eq_true hi)]) k
theorem Ex_lstore {i : Nat} {x : Int64} {L2 : List Value} (hd : decode M.2.2.1 pc = .ok (.lstore i, 2)) (hq : pc + 2 = q) (hi : Nat.blt (i + 1) L.length = true) (hL : am_st2 L i (.long x) = L2) (k : Ex E d M q L2 S h Q) : Ex E d M pc L (.long x :: S) h Q := by
  subst hq
  exact Ex_step hd rfl rfl rfl (by subst hL; simp only [am_s, am_stl]; rw [if_pos (show i + 1 < L.length from Nat.le_of_ble_eq_true hi)]) k
theorem Ex_astore_n {k0 : Fin 4} {x : Nat} {L2 : List Value} (hd : decode M.2.2.1 pc = .ok (.astore_n k0, 1)) (hq : pc + 1 = q) (hi : Nat.blt (k0.val) L.length = true) (hL : am_st1 L k0.val (.ref x) = L2) (k : Ex E d M q L2 S h Q) : Ex E d M pc L (.ref x :: S) h Q := by
  subst hq
  exact Ex_step hd rfl rfl rfl (by subst hL; simp only [am_s, am_sta]; rw [if_pos (show k0.val < L.length from Nat.le_of_ble_eq_true hi)]) k
theorem Ex_astore_nN {k0 : Fin 4} {L2 : List Value} (hd : decode M.2.2.1 pc = .ok (.astore_n k0, 1)) (hq : pc + 1 = q) (hi : Nat.blt (k0.val) L.length = true) (hL : am_st1 L k0.val (.null) = L2) (k : Ex E d M q L2 S h Q) : Ex E d M pc L (.null :: S) h Q := by
  subst hq
  exact Ex_step hd rfl rfl rfl (by subst hL; simp only [am_s, am_sta]; rw [if_pos (show k0.val < L.length from Nat.le_of_ble_eq_true hi)]) k
theorem Ex_astore {i : Nat} {x : Nat} {L2 : List Value} (hd : decode M.2.2.1 pc = .ok (.astore i, 2)) (hq : pc + 2 = q) (hi : Nat.blt (i) L.length = true) (hL : am_st1 L i (.ref x) = L2) (k : Ex E d M q L2 S h Q) : Ex E d M pc L (.ref x :: S) h Q := by
  subst hq
  exact Ex_step hd rfl rfl rfl (by subst hL; simp only [am_s, am_sta]; rw [if_pos (show i < L.length from Nat.le_of_ble_eq_true hi)]) k
theorem Ex_astoreN {i : Nat} {L2 : List Value} (hd : decode M.2.2.1 pc = .ok (.astore i, 2)) (hq : pc + 2 = q) (hi : Nat.blt (i) L.length = true) (hL : am_st1 L i (.null) = L2) (k : Ex E d M q L2 S h Q) : Ex E d M pc L (.null :: S) h Q := by
  subst hq
  exact Ex_step hd rfl rfl rfl (by subst hL; simp only [am_s, am_sta]; rw [if_pos (show i < L.length from Nat.le_of_ble_eq_true hi)]) k
theorem Ex_iinc {i : Nat} {n z : Int} {L2 : List Value} (hd : decode M.2.2.1 pc = .ok (.iinc i n, 3)) (hq : pc + 3 = q) (hi : L[i]? = some (.int (i32 z))) (hL : am_st1 L i (.int (i32 (z + n))) = L2) (k : Ex E d M q L2 S h Q) : Ex E d M pc L S h Q := by
  subst hq
  exact Ex_step hd rfl rfl rfl (by subst hL; simp only [am_s, am_inc, hi]; rw [i32_add]) k
theorem Ex_iadd {a b : Int} (hd : decode M.2.2.1 pc = .ok (.iadd, 1)) (hq : pc + 1 = q)  (k : Ex E d M q L ((.int (i32 (a + b))) :: S) h Q) : Ex E d M pc L ((.int (i32 b)) :: (.int (i32 a)) :: S) h Q := by
  subst hq
  exact Ex_step hd rfl rfl rfl (by simp only [am_s, am_i2]; rw [i32_add]) k
theorem Ex_isub {a b : Int} (hd : decode M.2.2.1 pc = .ok (.isub, 1)) (hq : pc + 1 = q)  (k : Ex E d M q L ((.int (i32 (a - b))) :: S) h Q) : Ex E d M pc L ((.int (i32 b)) :: (.int (i32 a)) :: S) h Q := by
  subst hq
  exact Ex_step hd rfl rfl rfl (by simp only [am_s, am_i2]; rw [i32_sub]) k
theorem Ex_imul {a b : Int} (hd : decode M.2.2.1 pc = .ok (.imul, 1)) (hq : pc + 1 = q)  (k : Ex E d M q L ((.int (i32 (a * b))) :: S) h Q) : Ex E d M pc L ((.int (i32 b)) :: (.int (i32 a)) :: S) h Q := by
  subst hq
  exact Ex_step hd rfl rfl rfl (by simp only [am_s, am_i2]; rw [i32_mul]) k
theorem Ex_ineg {a : Int} (hd : decode M.2.2.1 pc = .ok (.ineg, 1)) (hq : pc + 1 = q)  (k : Ex E d M q L ((.int (i32 (-a))) :: S) h Q) : Ex E d M pc L ((.int (i32 a)) :: S) h Q := by
  subst hq
  exact Ex_step hd rfl rfl rfl (by simp only [am_s, am_i1]; rw [i32_neg]) k
theorem Ex_idiv {a b : Int} (hd : decode M.2.2.1 pc = .ok (.idiv, 1)) (hq : pc + 1 = q) (ha : 0 ≤ a ∧ a ≤ 2147483647) (hb : 0 < b ∧ b ≤ 2147483647) (k : Ex E d M q L ((.int (i32 (a / b))) :: S) h Q) : Ex E d M pc L ((.int (i32 b)) :: (.int (i32 a)) :: S) h Q := by
  subst hq
  exact Ex_step hd rfl rfl rfl (by simp only [am_s, am_i2]; rw [if_neg (show ¬ i32 b = 0 from fun z => by have z2 : i32 b = i32 0 := z; rw [i32_eq (by omega)] at z2; omega), i32_div ha hb]) k
theorem Ex_irem {a b : Int} (hd : decode M.2.2.1 pc = .ok (.irem, 1)) (hq : pc + 1 = q) (ha : 0 ≤ a ∧ a ≤ 2147483647) (hb : 0 < b ∧ b ≤ 2147483647) (k : Ex E d M q L ((.int (i32 (a % b))) :: S) h Q) : Ex E d M pc L ((.int (i32 b)) :: (.int (i32 a)) :: S) h Q := by
  subst hq
  exact Ex_step hd rfl rfl rfl (by simp only [am_s, am_i2]; rw [if_neg (show ¬ i32 b = 0 from fun z => by have z2 : i32 b = i32 0 := z; rw [i32_eq (by omega)] at z2; omega), i32_rem ha hb]) k
theorem Ex_iand {a b v : Int} (hd : decode M.2.2.1 pc = .ok (.iand, 1)) (hq : pc + 1 = q) (hv : i32 a &&& i32 b = i32 v) (k : Ex E d M q L ((.int (i32 v)) :: S) h Q) : Ex E d M pc L ((.int (i32 b)) :: (.int (i32 a)) :: S) h Q := by
  subst hq
  exact Ex_step hd rfl rfl rfl (by simp only [am_s, am_i2]; rw [hv]) k
theorem Ex_ior {a b v : Int} (hd : decode M.2.2.1 pc = .ok (.ior, 1)) (hq : pc + 1 = q) (hv : i32 a ||| i32 b = i32 v) (k : Ex E d M q L ((.int (i32 v)) :: S) h Q) : Ex E d M pc L ((.int (i32 b)) :: (.int (i32 a)) :: S) h Q := by
  subst hq
  exact Ex_step hd rfl rfl rfl (by simp only [am_s, am_i2]; rw [hv]) k
theorem Ex_ishl {a b v : Int} (hd : decode M.2.2.1 pc = .ok (.ishl, 1)) (hq : pc + 1 = q) (hv : i32 a <<< (i32 b &&& 31) = i32 v) (k : Ex E d M q L ((.int (i32 v)) :: S) h Q) : Ex E d M pc L ((.int (i32 b)) :: (.int (i32 a)) :: S) h Q := by
  subst hq
  exact Ex_step hd rfl rfl rfl (by simp only [am_s, am_i2]; rw [hv]) k
theorem Ex_ishr {a b v : Int} (hd : decode M.2.2.1 pc = .ok (.ishr, 1)) (hq : pc + 1 = q) (hv : i32 a >>> (i32 b &&& 31) = i32 v) (k : Ex E d M q L ((.int (i32 v)) :: S) h Q) : Ex E d M pc L ((.int (i32 b)) :: (.int (i32 a)) :: S) h Q := by
  subst hq
  exact Ex_step hd rfl rfl rfl (by simp only [am_s, am_i2]; rw [hv]) k
theorem Ex_iandW {x y : Int32} (hd : decode M.2.2.1 pc = .ok (.iand, 1)) (hq : pc + 1 = q)  (k : Ex E d M q L (.int (x &&& y) :: S) h Q) : Ex E d M pc L (.int y :: .int x :: S) h Q := by
  subst hq
  exact Ex_step hd rfl rfl rfl (rfl) k
theorem Ex_iaddW {x y : Int32} (hd : decode M.2.2.1 pc = .ok (.iadd, 1)) (hq : pc + 1 = q)  (k : Ex E d M q L (.int (x + y) :: S) h Q) : Ex E d M pc L (.int y :: .int x :: S) h Q := by
  subst hq
  exact Ex_step hd rfl rfl rfl (rfl) k
theorem Ex_isubW {x y : Int32} (hd : decode M.2.2.1 pc = .ok (.isub, 1)) (hq : pc + 1 = q)  (k : Ex E d M q L (.int (x - y) :: S) h Q) : Ex E d M pc L (.int y :: .int x :: S) h Q := by
  subst hq
  exact Ex_step hd rfl rfl rfl (rfl) k
theorem Ex_imulW {x y : Int32} (hd : decode M.2.2.1 pc = .ok (.imul, 1)) (hq : pc + 1 = q)  (k : Ex E d M q L (.int (x * y) :: S) h Q) : Ex E d M pc L (.int y :: .int x :: S) h Q := by
  subst hq
  exact Ex_step hd rfl rfl rfl (rfl) k
theorem Ex_iushrW {x y : Int32} (hd : decode M.2.2.1 pc = .ok (.iushr, 1)) (hq : pc + 1 = q)  (k : Ex E d M q L (.int ((x.toUInt32 >>> (y.toUInt32 &&& Int32.toUInt32 31)).toInt32) :: S) h Q) : Ex E d M pc L (.int y :: .int x :: S) h Q := by
  subst hq
  exact Ex_step hd rfl rfl rfl (rfl) k
theorem Ex_ldc_wW {i : Nat} {v : Int32} (hd : decode M.2.2.1 pc = .ok (.ldc_w i, 3)) (hq : pc + 3 = q) (hk : am_k M.1 i = some v) (k : Ex E d M q L (.int v :: S) h Q) : Ex E d M pc L S h Q := by
  subst hq
  exact Ex_step hd rfl rfl rfl (by simp only [am_s, hk]; rfl) k
theorem Ex_ladd {a b : Int} (hd : decode M.2.2.1 pc = .ok (.ladd, 1)) (hq : pc + 1 = q)  (k : Ex E d M q L ((.long (i64 (a + b))) :: S) h Q) : Ex E d M pc L ((.long (i64 b)) :: (.long (i64 a)) :: S) h Q := by
  subst hq
  exact Ex_step hd rfl rfl rfl (by simp only [am_s, am_l2]; rw [i64_add]) k
theorem Ex_lmul {a b : Int} (hd : decode M.2.2.1 pc = .ok (.lmul, 1)) (hq : pc + 1 = q)  (k : Ex E d M q L ((.long (i64 (a * b))) :: S) h Q) : Ex E d M pc L ((.long (i64 b)) :: (.long (i64 a)) :: S) h Q := by
  subst hq
  exact Ex_step hd rfl rfl rfl (by simp only [am_s, am_l2]; rw [i64_mul]) k
theorem Ex_ldiv {a b : Int} (hd : decode M.2.2.1 pc = .ok (.ldiv, 1)) (hq : pc + 1 = q) (ha : 0 ≤ a ∧ a ≤ 9223372036854775807) (hb : 0 < b ∧ b ≤ 9223372036854775807) (k : Ex E d M q L ((.long (i64 (a / b))) :: S) h Q) : Ex E d M pc L ((.long (i64 b)) :: (.long (i64 a)) :: S) h Q := by
  subst hq
  exact Ex_step hd rfl rfl rfl (by simp only [am_s, am_l2]; rw [if_neg (show ¬ i64 b = 0 from fun z => by have z2 : i64 b = i64 0 := z; rw [i64_eq (by omega)] at z2; omega), i64_div ha hb]) k
theorem Ex_lrem {a b : Int} (hd : decode M.2.2.1 pc = .ok (.lrem, 1)) (hq : pc + 1 = q) (ha : 0 ≤ a ∧ a ≤ 9223372036854775807) (hb : 0 < b ∧ b ≤ 9223372036854775807) (k : Ex E d M q L ((.long (i64 (a % b))) :: S) h Q) : Ex E d M pc L ((.long (i64 b)) :: (.long (i64 a)) :: S) h Q := by
  subst hq
  exact Ex_step hd rfl rfl rfl (by simp only [am_s, am_l2]; rw [if_neg (show ¬ i64 b = 0 from fun z => by have z2 : i64 b = i64 0 := z; rw [i64_eq (by omega)] at z2; omega), i64_rem ha hb]) k
theorem Ex_lcmp {a b : Int} (hd : decode M.2.2.1 pc = .ok (.lcmp, 1)) (hq : pc + 1 = q) (hR : (-9223372036854775808 ≤ a ∧ a ≤ 9223372036854775807) ∧ (-9223372036854775808 ≤ b ∧ b ≤ 9223372036854775807)) (k : Ex E d M q L ((.int (i32 (lcmpI a b))) :: S) h Q) : Ex E d M pc L ((.long (i64 b)) :: (.long (i64 a)) :: S) h Q := by
  subst hq
  exact Ex_step hd rfl rfl rfl (by simp only [am_s, am_l2]; rw [i64_cmp hR]) k
theorem Ex_i2l {a : Int} (hd : decode M.2.2.1 pc = .ok (.i2l, 1)) (hq : pc + 1 = q) (hR : (-2147483648 ≤ a ∧ a ≤ 2147483647)) (k : Ex E d M q L ((.long (i64 a)) :: S) h Q) : Ex E d M pc L ((.int (i32 a)) :: S) h Q := by
  subst hq
  exact Ex_step hd rfl rfl rfl (by simp only [am_s, am_i1]; rw [i32_i2l hR]) k
theorem Ex_l2i {a : Int} (hd : decode M.2.2.1 pc = .ok (.l2i, 1)) (hq : pc + 1 = q)  (k : Ex E d M q L ((.int (i32 a)) :: S) h Q) : Ex E d M pc L ((.long (i64 a)) :: S) h Q := by
  subst hq
  exact Ex_step hd rfl rfl rfl (by simp only [am_s]; rw [i64_l2i]) k
theorem Ex_i2b {x : Int32} (hd : decode M.2.2.1 pc = .ok (.i2b, 1)) (hq : pc + 1 = q)  (k : Ex E d M q L (.int x.toInt8.toInt32 :: S) h Q) : Ex E d M pc L (.int x :: S) h Q := by
  subst hq
  exact Ex_step hd rfl rfl rfl (rfl) k
theorem Ex_i2s {x : Int32} (hd : decode M.2.2.1 pc = .ok (.i2s, 1)) (hq : pc + 1 = q)  (k : Ex E d M q L (.int x.toInt16.toInt32 :: S) h Q) : Ex E d M pc L (.int x :: S) h Q := by
  subst hq
  exact Ex_step hd rfl rfl rfl (rfl) k
theorem Ex_dup {v : Value} (hd : decode M.2.2.1 pc = .ok (.dup, 1)) (hq : pc + 1 = q) (hv : v.category = 1) (k : Ex E d M q L (v :: v :: S) h Q) : Ex E d M pc L (v :: S) h Q := by
  subst hq
  exact Ex_step hd rfl rfl rfl (by simp only [am_s]; rw [if_pos hv]) k
theorem Ex_pop {v : Value} (hd : decode M.2.2.1 pc = .ok (.pop, 1)) (hq : pc + 1 = q) (hv : v.category = 1) (k : Ex E d M q L S h Q) : Ex E d M pc L (v :: S) h Q := by
  subst hq
  exact Ex_step hd rfl rfl rfl (by simp only [am_s]; rw [if_pos hv]) k
theorem Ex_dup2 {v w : Value} (hd : decode M.2.2.1 pc = .ok (.dup2, 1)) (hq : pc + 1 = q) (hv : v.category = 1) (hw : w.category = 1) (k : Ex E d M q L (v :: w :: v :: w :: S) h Q) : Ex E d M pc L (v :: w :: S) h Q := by
  subst hq
  exact Ex_step hd rfl rfl rfl (by simp only [am_s]; rw [if_pos ⟨hv, hw⟩]) k
theorem Ex_icmp_eq {a b off : Int} (hd : decode M.2.2.1 pc = .ok (.if_icmp .eq off, 3)) (hq : pc + 3 = q) (ht : am_tk pc off = some t) (hR : (-2147483648 ≤ a ∧ a ≤ 2147483647) ∧ (-2147483648 ≤ b ∧ b ≤ 2147483647)) (kt : a = b → Ex E d M t L S h Q) (kf : a ≠ b → Ex E d M q L S h Q) : Ex E d M pc L ((.int (i32 b)) :: (.int (i32 a)) :: S) h Q := by
  subst hq
  obtain ⟨h1, rfl⟩ := am_tk_ok ht
  have hb2 : (-2147483648 ≤ a ∧ a ≤ 2147483647) ∧ (-2147483648 ≤ b ∧ b ≤ 2147483647) := hR
  by_cases c : a = b
  · refine Ex_step hd rfl rfl rfl (?_ : am_s E.2 M (.if_icmp .eq off) pc L _ h = some (am_tg pc off, L, S, h)) (kt c)
    show am_jp (am_c2 .eq (i32 a) (i32 b)) pc off L S h = _
    have e : am_c2 .eq (i32 a) (i32 b) = true := by
      simp only [am_c2, i32_eq hb2]
      exact decide_eq_true c
    simp only [am_jp, h1, e, if_true, Bool.false_eq_true, if_false]
  · refine Ex_step hd rfl rfl rfl (?_ : am_s E.2 M (.if_icmp .eq off) pc L _ h = some (pc + 3, L, S, h)) (kf (by omega))
    show am_jp (am_c2 .eq (i32 a) (i32 b)) pc off L S h = _
    have e : am_c2 .eq (i32 a) (i32 b) = false := by
      simp only [am_c2, i32_eq hb2]
      exact decide_eq_false c
    simp only [am_jp, h1, e, if_true, Bool.false_eq_true, if_false]
theorem Ex_if_eq {a off : Int} (hd : decode M.2.2.1 pc = .ok (.ifCond .eq off, 3)) (hq : pc + 3 = q) (ht : am_tk pc off = some t) (hR : (-2147483648 ≤ a ∧ a ≤ 2147483647)) (kt : a = 0 → Ex E d M t L S h Q) (kf : a ≠ 0 → Ex E d M q L S h Q) : Ex E d M pc L ((.int (i32 a)) :: S) h Q := by
  subst hq
  obtain ⟨h1, rfl⟩ := am_tk_ok ht
  have hb2 : (-2147483648 ≤ a ∧ a ≤ 2147483647) ∧ (-2147483648 ≤ (0 : Int) ∧ (0 : Int) ≤ 2147483647) := ⟨hR, by omega⟩
  by_cases c : a = 0
  · refine Ex_step hd rfl rfl rfl (?_ : am_s E.2 M (.ifCond .eq off) pc L _ h = some (am_tg pc off, L, S, h)) (kt c)
    show am_jp (am_c2 .eq (i32 a) (i32 0)) pc off L S h = _
    have e : am_c2 .eq (i32 a) (i32 0) = true := by
      simp only [am_c2, i32_eq hb2]
      exact decide_eq_true c
    simp only [am_jp, h1, e, if_true, Bool.false_eq_true, if_false]
  · refine Ex_step hd rfl rfl rfl (?_ : am_s E.2 M (.ifCond .eq off) pc L _ h = some (pc + 3, L, S, h)) (kf (by omega))
    show am_jp (am_c2 .eq (i32 a) (i32 0)) pc off L S h = _
    have e : am_c2 .eq (i32 a) (i32 0) = false := by
      simp only [am_c2, i32_eq hb2]
      exact decide_eq_false c
    simp only [am_jp, h1, e, if_true, Bool.false_eq_true, if_false]
theorem Ex_icmp_ne {a b off : Int} (hd : decode M.2.2.1 pc = .ok (.if_icmp .ne off, 3)) (hq : pc + 3 = q) (ht : am_tk pc off = some t) (hR : (-2147483648 ≤ a ∧ a ≤ 2147483647) ∧ (-2147483648 ≤ b ∧ b ≤ 2147483647)) (kt : a ≠ b → Ex E d M t L S h Q) (kf : a = b → Ex E d M q L S h Q) : Ex E d M pc L ((.int (i32 b)) :: (.int (i32 a)) :: S) h Q := by
  subst hq
  obtain ⟨h1, rfl⟩ := am_tk_ok ht
  have hb2 : (-2147483648 ≤ a ∧ a ≤ 2147483647) ∧ (-2147483648 ≤ b ∧ b ≤ 2147483647) := hR
  by_cases c : a ≠ b
  · refine Ex_step hd rfl rfl rfl (?_ : am_s E.2 M (.if_icmp .ne off) pc L _ h = some (am_tg pc off, L, S, h)) (kt c)
    show am_jp (am_c2 .ne (i32 a) (i32 b)) pc off L S h = _
    have e : am_c2 .ne (i32 a) (i32 b) = true := by
      simp only [am_c2, i32_eq hb2]
      exact decide_eq_true c
    simp only [am_jp, h1, e, if_true, Bool.false_eq_true, if_false]
  · refine Ex_step hd rfl rfl rfl (?_ : am_s E.2 M (.if_icmp .ne off) pc L _ h = some (pc + 3, L, S, h)) (kf (by omega))
    show am_jp (am_c2 .ne (i32 a) (i32 b)) pc off L S h = _
    have e : am_c2 .ne (i32 a) (i32 b) = false := by
      simp only [am_c2, i32_eq hb2]
      exact decide_eq_false c
    simp only [am_jp, h1, e, if_true, Bool.false_eq_true, if_false]
theorem Ex_if_ne {a off : Int} (hd : decode M.2.2.1 pc = .ok (.ifCond .ne off, 3)) (hq : pc + 3 = q) (ht : am_tk pc off = some t) (hR : (-2147483648 ≤ a ∧ a ≤ 2147483647)) (kt : a ≠ 0 → Ex E d M t L S h Q) (kf : a = 0 → Ex E d M q L S h Q) : Ex E d M pc L ((.int (i32 a)) :: S) h Q := by
  subst hq
  obtain ⟨h1, rfl⟩ := am_tk_ok ht
  have hb2 : (-2147483648 ≤ a ∧ a ≤ 2147483647) ∧ (-2147483648 ≤ (0 : Int) ∧ (0 : Int) ≤ 2147483647) := ⟨hR, by omega⟩
  by_cases c : a ≠ 0
  · refine Ex_step hd rfl rfl rfl (?_ : am_s E.2 M (.ifCond .ne off) pc L _ h = some (am_tg pc off, L, S, h)) (kt c)
    show am_jp (am_c2 .ne (i32 a) (i32 0)) pc off L S h = _
    have e : am_c2 .ne (i32 a) (i32 0) = true := by
      simp only [am_c2, i32_eq hb2]
      exact decide_eq_true c
    simp only [am_jp, h1, e, if_true, Bool.false_eq_true, if_false]
  · refine Ex_step hd rfl rfl rfl (?_ : am_s E.2 M (.ifCond .ne off) pc L _ h = some (pc + 3, L, S, h)) (kf (by omega))
    show am_jp (am_c2 .ne (i32 a) (i32 0)) pc off L S h = _
    have e : am_c2 .ne (i32 a) (i32 0) = false := by
      simp only [am_c2, i32_eq hb2]
      exact decide_eq_false c
    simp only [am_jp, h1, e, if_true, Bool.false_eq_true, if_false]
theorem Ex_icmp_lt {a b off : Int} (hd : decode M.2.2.1 pc = .ok (.if_icmp .lt off, 3)) (hq : pc + 3 = q) (ht : am_tk pc off = some t) (hR : (-2147483648 ≤ a ∧ a ≤ 2147483647) ∧ (-2147483648 ≤ b ∧ b ≤ 2147483647)) (kt : a < b → Ex E d M t L S h Q) (kf : b ≤ a → Ex E d M q L S h Q) : Ex E d M pc L ((.int (i32 b)) :: (.int (i32 a)) :: S) h Q := by
  subst hq
  obtain ⟨h1, rfl⟩ := am_tk_ok ht
  have hb2 : (-2147483648 ≤ a ∧ a ≤ 2147483647) ∧ (-2147483648 ≤ b ∧ b ≤ 2147483647) := hR
  by_cases c : a < b
  · refine Ex_step hd rfl rfl rfl (?_ : am_s E.2 M (.if_icmp .lt off) pc L _ h = some (am_tg pc off, L, S, h)) (kt c)
    show am_jp (am_c2 .lt (i32 a) (i32 b)) pc off L S h = _
    have e : am_c2 .lt (i32 a) (i32 b) = true := by
      simp only [am_c2, i32_lt hb2]
      exact decide_eq_true c
    simp only [am_jp, h1, e, if_true, Bool.false_eq_true, if_false]
  · refine Ex_step hd rfl rfl rfl (?_ : am_s E.2 M (.if_icmp .lt off) pc L _ h = some (pc + 3, L, S, h)) (kf (by omega))
    show am_jp (am_c2 .lt (i32 a) (i32 b)) pc off L S h = _
    have e : am_c2 .lt (i32 a) (i32 b) = false := by
      simp only [am_c2, i32_lt hb2]
      exact decide_eq_false c
    simp only [am_jp, h1, e, if_true, Bool.false_eq_true, if_false]
theorem Ex_if_lt {a off : Int} (hd : decode M.2.2.1 pc = .ok (.ifCond .lt off, 3)) (hq : pc + 3 = q) (ht : am_tk pc off = some t) (hR : (-2147483648 ≤ a ∧ a ≤ 2147483647)) (kt : a < 0 → Ex E d M t L S h Q) (kf : 0 ≤ a → Ex E d M q L S h Q) : Ex E d M pc L ((.int (i32 a)) :: S) h Q := by
  subst hq
  obtain ⟨h1, rfl⟩ := am_tk_ok ht
  have hb2 : (-2147483648 ≤ a ∧ a ≤ 2147483647) ∧ (-2147483648 ≤ (0 : Int) ∧ (0 : Int) ≤ 2147483647) := ⟨hR, by omega⟩
  by_cases c : a < 0
  · refine Ex_step hd rfl rfl rfl (?_ : am_s E.2 M (.ifCond .lt off) pc L _ h = some (am_tg pc off, L, S, h)) (kt c)
    show am_jp (am_c2 .lt (i32 a) (i32 0)) pc off L S h = _
    have e : am_c2 .lt (i32 a) (i32 0) = true := by
      simp only [am_c2, i32_lt hb2]
      exact decide_eq_true c
    simp only [am_jp, h1, e, if_true, Bool.false_eq_true, if_false]
  · refine Ex_step hd rfl rfl rfl (?_ : am_s E.2 M (.ifCond .lt off) pc L _ h = some (pc + 3, L, S, h)) (kf (by omega))
    show am_jp (am_c2 .lt (i32 a) (i32 0)) pc off L S h = _
    have e : am_c2 .lt (i32 a) (i32 0) = false := by
      simp only [am_c2, i32_lt hb2]
      exact decide_eq_false c
    simp only [am_jp, h1, e, if_true, Bool.false_eq_true, if_false]
theorem Ex_icmp_ge {a b off : Int} (hd : decode M.2.2.1 pc = .ok (.if_icmp .ge off, 3)) (hq : pc + 3 = q) (ht : am_tk pc off = some t) (hR : (-2147483648 ≤ a ∧ a ≤ 2147483647) ∧ (-2147483648 ≤ b ∧ b ≤ 2147483647)) (kt : b ≤ a → Ex E d M t L S h Q) (kf : a < b → Ex E d M q L S h Q) : Ex E d M pc L ((.int (i32 b)) :: (.int (i32 a)) :: S) h Q := by
  subst hq
  obtain ⟨h1, rfl⟩ := am_tk_ok ht
  have hb2 : (-2147483648 ≤ a ∧ a ≤ 2147483647) ∧ (-2147483648 ≤ b ∧ b ≤ 2147483647) := hR
  by_cases c : b ≤ a
  · refine Ex_step hd rfl rfl rfl (?_ : am_s E.2 M (.if_icmp .ge off) pc L _ h = some (am_tg pc off, L, S, h)) (kt c)
    show am_jp (am_c2 .ge (i32 a) (i32 b)) pc off L S h = _
    have e : am_c2 .ge (i32 a) (i32 b) = true := by
      simp only [am_c2, i32_le ⟨hb2.2, hb2.1⟩]
      exact decide_eq_true c
    simp only [am_jp, h1, e, if_true, Bool.false_eq_true, if_false]
  · refine Ex_step hd rfl rfl rfl (?_ : am_s E.2 M (.if_icmp .ge off) pc L _ h = some (pc + 3, L, S, h)) (kf (by omega))
    show am_jp (am_c2 .ge (i32 a) (i32 b)) pc off L S h = _
    have e : am_c2 .ge (i32 a) (i32 b) = false := by
      simp only [am_c2, i32_le ⟨hb2.2, hb2.1⟩]
      exact decide_eq_false c
    simp only [am_jp, h1, e, if_true, Bool.false_eq_true, if_false]
theorem Ex_if_ge {a off : Int} (hd : decode M.2.2.1 pc = .ok (.ifCond .ge off, 3)) (hq : pc + 3 = q) (ht : am_tk pc off = some t) (hR : (-2147483648 ≤ a ∧ a ≤ 2147483647)) (kt : 0 ≤ a → Ex E d M t L S h Q) (kf : a < 0 → Ex E d M q L S h Q) : Ex E d M pc L ((.int (i32 a)) :: S) h Q := by
  subst hq
  obtain ⟨h1, rfl⟩ := am_tk_ok ht
  have hb2 : (-2147483648 ≤ a ∧ a ≤ 2147483647) ∧ (-2147483648 ≤ (0 : Int) ∧ (0 : Int) ≤ 2147483647) := ⟨hR, by omega⟩
  by_cases c : 0 ≤ a
  · refine Ex_step hd rfl rfl rfl (?_ : am_s E.2 M (.ifCond .ge off) pc L _ h = some (am_tg pc off, L, S, h)) (kt c)
    show am_jp (am_c2 .ge (i32 a) (i32 0)) pc off L S h = _
    have e : am_c2 .ge (i32 a) (i32 0) = true := by
      simp only [am_c2, i32_le ⟨hb2.2, hb2.1⟩]
      exact decide_eq_true c
    simp only [am_jp, h1, e, if_true, Bool.false_eq_true, if_false]
  · refine Ex_step hd rfl rfl rfl (?_ : am_s E.2 M (.ifCond .ge off) pc L _ h = some (pc + 3, L, S, h)) (kf (by omega))
    show am_jp (am_c2 .ge (i32 a) (i32 0)) pc off L S h = _
    have e : am_c2 .ge (i32 a) (i32 0) = false := by
      simp only [am_c2, i32_le ⟨hb2.2, hb2.1⟩]
      exact decide_eq_false c
    simp only [am_jp, h1, e, if_true, Bool.false_eq_true, if_false]
theorem Ex_icmp_gt {a b off : Int} (hd : decode M.2.2.1 pc = .ok (.if_icmp .gt off, 3)) (hq : pc + 3 = q) (ht : am_tk pc off = some t) (hR : (-2147483648 ≤ a ∧ a ≤ 2147483647) ∧ (-2147483648 ≤ b ∧ b ≤ 2147483647)) (kt : b < a → Ex E d M t L S h Q) (kf : a ≤ b → Ex E d M q L S h Q) : Ex E d M pc L ((.int (i32 b)) :: (.int (i32 a)) :: S) h Q := by
  subst hq
  obtain ⟨h1, rfl⟩ := am_tk_ok ht
  have hb2 : (-2147483648 ≤ a ∧ a ≤ 2147483647) ∧ (-2147483648 ≤ b ∧ b ≤ 2147483647) := hR
  by_cases c : b < a
  · refine Ex_step hd rfl rfl rfl (?_ : am_s E.2 M (.if_icmp .gt off) pc L _ h = some (am_tg pc off, L, S, h)) (kt c)
    show am_jp (am_c2 .gt (i32 a) (i32 b)) pc off L S h = _
    have e : am_c2 .gt (i32 a) (i32 b) = true := by
      simp only [am_c2, i32_lt ⟨hb2.2, hb2.1⟩]
      exact decide_eq_true c
    simp only [am_jp, h1, e, if_true, Bool.false_eq_true, if_false]
  · refine Ex_step hd rfl rfl rfl (?_ : am_s E.2 M (.if_icmp .gt off) pc L _ h = some (pc + 3, L, S, h)) (kf (by omega))
    show am_jp (am_c2 .gt (i32 a) (i32 b)) pc off L S h = _
    have e : am_c2 .gt (i32 a) (i32 b) = false := by
      simp only [am_c2, i32_lt ⟨hb2.2, hb2.1⟩]
      exact decide_eq_false c
    simp only [am_jp, h1, e, if_true, Bool.false_eq_true, if_false]
theorem Ex_if_gt {a off : Int} (hd : decode M.2.2.1 pc = .ok (.ifCond .gt off, 3)) (hq : pc + 3 = q) (ht : am_tk pc off = some t) (hR : (-2147483648 ≤ a ∧ a ≤ 2147483647)) (kt : 0 < a → Ex E d M t L S h Q) (kf : a ≤ 0 → Ex E d M q L S h Q) : Ex E d M pc L ((.int (i32 a)) :: S) h Q := by
  subst hq
  obtain ⟨h1, rfl⟩ := am_tk_ok ht
  have hb2 : (-2147483648 ≤ a ∧ a ≤ 2147483647) ∧ (-2147483648 ≤ (0 : Int) ∧ (0 : Int) ≤ 2147483647) := ⟨hR, by omega⟩
  by_cases c : 0 < a
  · refine Ex_step hd rfl rfl rfl (?_ : am_s E.2 M (.ifCond .gt off) pc L _ h = some (am_tg pc off, L, S, h)) (kt c)
    show am_jp (am_c2 .gt (i32 a) (i32 0)) pc off L S h = _
    have e : am_c2 .gt (i32 a) (i32 0) = true := by
      simp only [am_c2, i32_lt ⟨hb2.2, hb2.1⟩]
      exact decide_eq_true c
    simp only [am_jp, h1, e, if_true, Bool.false_eq_true, if_false]
  · refine Ex_step hd rfl rfl rfl (?_ : am_s E.2 M (.ifCond .gt off) pc L _ h = some (pc + 3, L, S, h)) (kf (by omega))
    show am_jp (am_c2 .gt (i32 a) (i32 0)) pc off L S h = _
    have e : am_c2 .gt (i32 a) (i32 0) = false := by
      simp only [am_c2, i32_lt ⟨hb2.2, hb2.1⟩]
      exact decide_eq_false c
    simp only [am_jp, h1, e, if_true, Bool.false_eq_true, if_false]
theorem Ex_icmp_le {a b off : Int} (hd : decode M.2.2.1 pc = .ok (.if_icmp .le off, 3)) (hq : pc + 3 = q) (ht : am_tk pc off = some t) (hR : (-2147483648 ≤ a ∧ a ≤ 2147483647) ∧ (-2147483648 ≤ b ∧ b ≤ 2147483647)) (kt : a ≤ b → Ex E d M t L S h Q) (kf : b < a → Ex E d M q L S h Q) : Ex E d M pc L ((.int (i32 b)) :: (.int (i32 a)) :: S) h Q := by
  subst hq
  obtain ⟨h1, rfl⟩ := am_tk_ok ht
  have hb2 : (-2147483648 ≤ a ∧ a ≤ 2147483647) ∧ (-2147483648 ≤ b ∧ b ≤ 2147483647) := hR
  by_cases c : a ≤ b
  · refine Ex_step hd rfl rfl rfl (?_ : am_s E.2 M (.if_icmp .le off) pc L _ h = some (am_tg pc off, L, S, h)) (kt c)
    show am_jp (am_c2 .le (i32 a) (i32 b)) pc off L S h = _
    have e : am_c2 .le (i32 a) (i32 b) = true := by
      simp only [am_c2, i32_le hb2]
      exact decide_eq_true c
    simp only [am_jp, h1, e, if_true, Bool.false_eq_true, if_false]
  · refine Ex_step hd rfl rfl rfl (?_ : am_s E.2 M (.if_icmp .le off) pc L _ h = some (pc + 3, L, S, h)) (kf (by omega))
    show am_jp (am_c2 .le (i32 a) (i32 b)) pc off L S h = _
    have e : am_c2 .le (i32 a) (i32 b) = false := by
      simp only [am_c2, i32_le hb2]
      exact decide_eq_false c
    simp only [am_jp, h1, e, if_true, Bool.false_eq_true, if_false]
theorem Ex_if_le {a off : Int} (hd : decode M.2.2.1 pc = .ok (.ifCond .le off, 3)) (hq : pc + 3 = q) (ht : am_tk pc off = some t) (hR : (-2147483648 ≤ a ∧ a ≤ 2147483647)) (kt : a ≤ 0 → Ex E d M t L S h Q) (kf : 0 < a → Ex E d M q L S h Q) : Ex E d M pc L ((.int (i32 a)) :: S) h Q := by
  subst hq
  obtain ⟨h1, rfl⟩ := am_tk_ok ht
  have hb2 : (-2147483648 ≤ a ∧ a ≤ 2147483647) ∧ (-2147483648 ≤ (0 : Int) ∧ (0 : Int) ≤ 2147483647) := ⟨hR, by omega⟩
  by_cases c : a ≤ 0
  · refine Ex_step hd rfl rfl rfl (?_ : am_s E.2 M (.ifCond .le off) pc L _ h = some (am_tg pc off, L, S, h)) (kt c)
    show am_jp (am_c2 .le (i32 a) (i32 0)) pc off L S h = _
    have e : am_c2 .le (i32 a) (i32 0) = true := by
      simp only [am_c2, i32_le hb2]
      exact decide_eq_true c
    simp only [am_jp, h1, e, if_true, Bool.false_eq_true, if_false]
  · refine Ex_step hd rfl rfl rfl (?_ : am_s E.2 M (.ifCond .le off) pc L _ h = some (pc + 3, L, S, h)) (kf (by omega))
    show am_jp (am_c2 .le (i32 a) (i32 0)) pc off L S h = _
    have e : am_c2 .le (i32 a) (i32 0) = false := by
      simp only [am_c2, i32_le hb2]
      exact decide_eq_false c
    simp only [am_jp, h1, e, if_true, Bool.false_eq_true, if_false]
theorem Ex_goto {off : Int} (hd : decode M.2.2.1 pc = .ok (.goto off, 3)) (ht : am_tk pc off = some t) (k : Ex E d M t L S h Q) : Ex E d M pc L S h Q := by
  obtain ⟨h1, rfl⟩ := am_tk_ok ht
  exact Ex_step hd rfl rfl rfl (by simp only [am_s, am_jp, h1, if_true]) k
theorem Ex_ifnullN {off : Int} (hd : decode M.2.2.1 pc = .ok (.ifnull off, 3)) (hq : pc + 3 = q) (ht : am_tk pc off = some t) (k : Ex E d M t L S h Q) : Ex E d M pc L (.null :: S) h Q := by
  subst hq
  obtain ⟨h1, rfl⟩ := am_tk_ok ht
  exact Ex_step hd rfl rfl rfl (by simp only [am_s, am_nul, am_jp, h1, if_true, Bool.not_true, Bool.not_false, Bool.false_eq_true, if_false]) k
theorem Ex_ifnull {off : Int} {x : Nat} (hd : decode M.2.2.1 pc = .ok (.ifnull off, 3)) (hq : pc + 3 = q) (ht : am_tk pc off = some t) (k : Ex E d M q L S h Q) : Ex E d M pc L (.ref x :: S) h Q := by
  subst hq
  obtain ⟨h1, rfl⟩ := am_tk_ok ht
  exact Ex_step hd rfl rfl rfl (by simp only [am_s, am_nul, am_jp, h1, if_true, Bool.not_true, Bool.not_false, Bool.false_eq_true, if_false]) k
theorem Ex_ifnonnullN {off : Int} (hd : decode M.2.2.1 pc = .ok (.ifnonnull off, 3)) (hq : pc + 3 = q) (ht : am_tk pc off = some t) (k : Ex E d M q L S h Q) : Ex E d M pc L (.null :: S) h Q := by
  subst hq
  obtain ⟨h1, rfl⟩ := am_tk_ok ht
  exact Ex_step hd rfl rfl rfl (by simp only [am_s, am_nul, am_jp, h1, if_true, Bool.not_true, Bool.not_false, Bool.false_eq_true, if_false]) k
theorem Ex_ifnonnull {off : Int} {x : Nat} (hd : decode M.2.2.1 pc = .ok (.ifnonnull off, 3)) (hq : pc + 3 = q) (ht : am_tk pc off = some t) (k : Ex E d M t L S h Q) : Ex E d M pc L (.ref x :: S) h Q := by
  subst hq
  obtain ⟨h1, rfl⟩ := am_tk_ok ht
  exact Ex_step hd rfl rfl rfl (by simp only [am_s, am_nul, am_jp, h1, if_true, Bool.not_true, Bool.not_false, Bool.false_eq_true, if_false]) k
theorem Ex_tabOut {dflt lo hi x : Int} {offs : Array Int} {len : Nat} (hd : decode M.2.2.1 pc = .ok (.tableswitch dflt lo hi offs, len)) (ht : am_tk pc dflt = some t) (hR : (-2147483648 ≤ x ∧ x ≤ 2147483647)) (hx : x < lo ∨ hi < x) (k : Ex E d M t L S h Q) : Ex E d M pc L ((.int (i32 x)) :: S) h Q := by
  obtain ⟨h1, rfl⟩ := am_tk_ok ht
  exact Ex_step hd rfl rfl rfl (by simp only [am_s, am_i1, i32_toInt hR, hx, h1, if_true]) k
theorem Ex_tabIn {dflt lo hi off x : Int} {offs : Array Int} {len : Nat} (c : Int) (hd : decode M.2.2.1 pc = .ok (.tableswitch dflt lo hi offs, len)) (hx : x = c) (hR : (-2147483648 ≤ c ∧ c ≤ 2147483647)) (hin : ¬ (c < lo ∨ hi < c)) (ho : offs[(c - lo).toNat]? = some off) (ht : am_tk pc off = some t) (k : Ex E d M t L S h Q) : Ex E d M pc L ((.int (i32 x)) :: S) h Q := by
  subst hx
  obtain ⟨h1, rfl⟩ := am_tk_ok ht
  exact Ex_step hd rfl rfl rfl (by simp only [am_s, am_i1, i32_toInt hR]; rw [if_neg hin, ho]; simp only [h1, if_true]) k
theorem Ex_look {dflt off x : Int} {ps : Array (Int × Int)} {len : Nat} (hd : decode M.2.2.1 pc = .ok (.lookupswitch dflt ps, len)) (hR : (-2147483648 ≤ x ∧ x ≤ 2147483647)) (hp : (ps.toList.zip (ps.toList.drop 1)).all (fun (a, next) => a.1 < next.1) = true) (ho : Op.lookupswitch.offset ps.toList dflt x = off) (ht : am_tk pc off = some t) (k : Ex E d M t L S h Q) : Ex E d M pc L ((.int (i32 x)) :: S) h Q := by
  subst ho
  obtain ⟨h1, rfl⟩ := am_tk_ok ht
  exact Ex_step hd rfl rfl rfl (by simp only [am_s, am_i1, i32_toInt hR]; rw [if_pos ⟨hp, h1⟩]) k
theorem Ex_getf {i a tg k0 : Nat} {fs : List Value} {ts : List Nat} {v : Value} (hd : decode M.2.2.1 pc = .ok (.getfield i, 3)) (hq : pc + 3 = q) (ha : h.1 a = some (tg, fs)) (hf : am_fld M.1 i = some (k0, ts)) (ht : ts.contains tg = true) (hv : fs[k0]? = some v) (k : Ex E d M q L (v :: S) h Q) : Ex E d M pc L (.ref a :: S) h Q := by
  subst hq
  exact Ex_step hd rfl rfl rfl (by simp only [am_s, am_getf, ha, hf, hv]; rw [if_pos ht]) k
theorem Ex_putf {i a tg k0 : Nat} {fs fs2 : List Value} {ts : List Nat} {v : Value} (hd : decode M.2.2.1 pc = .ok (.putfield i, 3)) (hq : pc + 3 = q) (ha : h.1 a = some (tg, fs)) (hf : am_fld M.1 i = some (k0, ts)) (ht : ts.contains tg = true) (hpf : am_pf M tg k0 = true) (hn : narrow (am_ty tg k0) v = v) (hfit : fits (am_ty tg k0) v = true) (hB : E.2 ≤ a) (hs : fs.set k0 v = fs2) (k : Ex E d M q L S (am_put h a (tg, fs2)) Q) : Ex E d M pc L (v :: .ref a :: S) h Q := by
  subst hq
  exact Ex_step hd rfl rfl rfl (by subst hs; simp only [am_s, am_putf, ha, hf]; rw [if_pos ⟨ht, hpf, hn, hfit, hB⟩]) k
theorem Ex_iald {a : Nat} {j : Int} {fs : List Value} {v : Value} (hd : decode M.2.2.1 pc = .ok (.iaload, 1)) (hq : pc + 1 = q) (ha : h.1 a = some (20, fs)) (hj : 0 ≤ j ∧ j ≤ 2147483647) (hv : fs[j.toNat]? = some v) (k : Ex E d M q L (v :: S) h Q) : Ex E d M pc L ((.int (i32 j)) :: .ref a :: S) h Q := by
  subst hq
  exact Ex_step hd rfl rfl rfl (by simp only [am_s, am_ald, ha, i32_nat hj, hv]; rw [if_pos ⟨by omega, i32_nneg hj⟩]) k
theorem Ex_lald {a : Nat} {j : Int} {fs : List Value} {v : Value} (hd : decode M.2.2.1 pc = .ok (.laload, 1)) (hq : pc + 1 = q) (ha : h.1 a = some (21, fs)) (hj : 0 ≤ j ∧ j ≤ 2147483647) (hv : fs[j.toNat]? = some v) (k : Ex E d M q L (v :: S) h Q) : Ex E d M pc L ((.int (i32 j)) :: .ref a :: S) h Q := by
  subst hq
  exact Ex_step hd rfl rfl rfl (by simp only [am_s, am_ald, ha, i32_nat hj, hv]; rw [if_pos ⟨by omega, i32_nneg hj⟩]) k
theorem Ex_aald {a tg : Nat} {j : Int} {fs : List Value} {v : Value} (hd : decode M.2.2.1 pc = .ok (.aaload, 1)) (hq : pc + 1 = q) (ha : h.1 a = some (tg, fs)) (ht : 22 ≤ tg ∧ tg < 26) (hj : 0 ≤ j ∧ j ≤ 2147483647) (hv : fs[j.toNat]? = some v) (k : Ex E d M q L (v :: S) h Q) : Ex E d M pc L ((.int (i32 j)) :: .ref a :: S) h Q := by
  subst hq
  exact Ex_step hd rfl rfl rfl (by simp only [am_s, am_ald, ha, i32_nat hj, hv]; rw [if_pos ⟨ht, i32_nneg hj⟩]) k
theorem Ex_iast {a : Nat} {j : Int} {x : Int32} {fs fs2 : List Value} (hd : decode M.2.2.1 pc = .ok (.iastore, 1)) (hq : pc + 1 = q) (ha : h.1 a = some (20, fs)) (hj : 0 ≤ j ∧ j ≤ 2147483647) (hlt : j.toNat < fs.length) (hB : E.2 ≤ a) (hs : fs.set j.toNat (.int x) = fs2) (k : Ex E d M q L S (am_put h a (20, fs2)) Q) : Ex E d M pc L (.int x :: (.int (i32 j)) :: .ref a :: S) h Q := by
  subst hq
  exact Ex_step hd rfl rfl rfl (by subst hs; simp only [am_s, am_iast, ha, i32_nat hj]; rw [if_pos ⟨trivial, i32_nneg hj, hlt, hB⟩]) k
theorem Ex_last {a : Nat} {j : Int} {x : Int64} {fs fs2 : List Value} (hd : decode M.2.2.1 pc = .ok (.lastore, 1)) (hq : pc + 1 = q) (ha : h.1 a = some (21, fs)) (hj : 0 ≤ j ∧ j ≤ 2147483647) (hlt : j.toNat < fs.length) (hB : E.2 ≤ a) (hs : fs.set j.toNat (.long x) = fs2) (k : Ex E d M q L S (am_put h a (21, fs2)) Q) : Ex E d M pc L (.long x :: (.int (i32 j)) :: .ref a :: S) h Q := by
  subst hq
  exact Ex_step hd rfl rfl rfl (by subst hs; simp only [am_s, am_last, ha, i32_nat hj]; rw [if_pos ⟨trivial, i32_nneg hj, hlt, hB⟩]) k
theorem Ex_aastN {a tg : Nat} {j : Int} {fs fs2 : List Value} (hd : decode M.2.2.1 pc = .ok (.aastore, 1)) (hq : pc + 1 = q) (ha : h.1 a = some (tg, fs)) (ht : 22 ≤ tg ∧ tg < 26) (hj : 0 ≤ j ∧ j ≤ 2147483647) (hlt : j.toNat < fs.length) (hB : E.2 ≤ a) (hs : fs.set j.toNat .null = fs2) (k : Ex E d M q L S (am_put h a (tg, fs2)) Q) : Ex E d M pc L (.null :: (.int (i32 j)) :: .ref a :: S) h Q := by
  subst hq
  exact Ex_step hd rfl rfl rfl (by subst hs; simp only [am_s, am_aast, ha, i32_nat hj]; rw [if_pos ⟨ht, i32_nneg hj, hlt, hB⟩]) k
theorem Ex_aast {a tg b tg2 : Nat} {j : Int} {fs fs2 gs : List Value} (hd : decode M.2.2.1 pc = .ok (.aastore, 1)) (hq : pc + 1 = q) (ha : h.1 a = some (tg, fs)) (hb : h.1 b = some (tg2, gs)) (ht : 22 ≤ tg ∧ tg < 26) (hel : (am_ael tg).contains tg2 = true) (hj : 0 ≤ j ∧ j ≤ 2147483647) (hlt : j.toNat < fs.length) (hB : E.2 ≤ a) (hs : fs.set j.toNat (.ref b) = fs2) (k : Ex E d M q L S (am_put h a (tg, fs2)) Q) : Ex E d M pc L (.ref b :: (.int (i32 j)) :: .ref a :: S) h Q := by
  subst hq
  exact Ex_step hd rfl rfl rfl (by subst hs; simp only [am_s, am_aast, ha, hb, i32_nat hj]; rw [if_pos ⟨ht, hel, i32_nneg hj, hlt, hB⟩]) k
theorem Ex_alen {a tg : Nat} {fs : List Value} {n : Int} (hd : decode M.2.2.1 pc = .ok (.arraylength, 1)) (hq : pc + 1 = q) (ha : h.1 a = some (tg, fs)) (ht : 20 ≤ tg ∧ tg < 26) (hn : (fs.length : Int) = n) (k : Ex E d M q L ((.int (i32 n)) :: S) h Q) : Ex E d M pc L (.ref a :: S) h Q := by
  subst hq
  exact Ex_step hd rfl rfl rfl (by subst hn; simp only [am_s, am_alen, ha]; rw [if_pos ht, i32_ofNat]) k
theorem Ex_new {i tg n : Nat} {fs : List Value} (hd : decode M.2.2.1 pc = .ok (.new i, 3)) (hq : pc + 3 = q) (hn : am_nw M.1 i = some tg) (hN : am_N tg = n) (hs : am_df tg = fs) (k : Ex E d M q L (.ref h.2.1 :: S) (am_new h (tg, fs) n) Q) : Ex E d M pc L S h Q := by
  subst hq
  exact Ex_step hd rfl rfl rfl (by subst hs; subst hN; simp only [am_s, hn]; rfl) k
theorem Ex_newaI {n : Int} {N : Nat} {fs : List Value} (hd : decode M.2.2.1 pc = .ok (.newarray .int, 2)) (hq : pc + 2 = q) (hn : 0 ≤ n ∧ n ≤ 100000) (hN : n.toNat = N) (hfs : List.replicate N (.int (i32 0)) = fs) (k : Ex E d M q L (.ref h.2.1 :: S) (am_new h (20, fs) N) Q) : Ex E d M pc L ((.int (i32 n)) :: S) h Q := by
  subst hq
  exact Ex_step hd rfl rfl rfl (by subst hfs; subst hN; simp only [am_s, am_newa, i32_nat (show 0 ≤ n ∧ n ≤ 2147483647 by omega)]; rw [if_pos ⟨i32_nneg (by omega), by omega⟩]; rfl) k
theorem Ex_newaL {n : Int} {N : Nat} {fs : List Value} (hd : decode M.2.2.1 pc = .ok (.newarray .long, 2)) (hq : pc + 2 = q) (hn : 0 ≤ n ∧ n ≤ 100000) (hN : n.toNat = N) (hfs : List.replicate N (.long (i64 0)) = fs) (k : Ex E d M q L (.ref h.2.1 :: S) (am_new h (21, fs) N) Q) : Ex E d M pc L ((.int (i32 n)) :: S) h Q := by
  subst hq
  exact Ex_step hd rfl rfl rfl (by subst hfs; subst hN; simp only [am_s, am_newa, i32_nat (show 0 ≤ n ∧ n ≤ 2147483647 by omega)]; rw [if_pos ⟨i32_nneg (by omega), by omega⟩]; rfl) k
theorem Ex_anew {i tg : Nat} {n : Int} {N : Nat} {fs : List Value} (hd : decode M.2.2.1 pc = .ok (.anewarray i, 3)) (hq : pc + 3 = q) (ht : am_an M.1 i = some tg) (hn : 0 ≤ n ∧ n ≤ 100000) (hN : n.toNat = N) (hfs : List.replicate N Value.null = fs) (k : Ex E d M q L (.ref h.2.1 :: S) (am_new h (tg, fs) N) Q) : Ex E d M pc L ((.int (i32 n)) :: S) h Q := by
  subst hq
  exact Ex_step hd rfl rfl rfl (by subst hfs; subst hN; simp only [am_s, ht, am_newa, i32_nat (show 0 ≤ n ∧ n ≤ 2147483647 by omega), Option.bind_some]; rw [if_pos ⟨i32_nneg (by omega), by omega⟩]) k
theorem Ex_iret {x : Int32} {ty : FieldType} (hd : decode M.2.2.1 pc = .ok (.ireturn, 1)) (ht : M.2.2.2.2 = some ty) (hn : narrow ty (.int x) = .int x) (p : Q (some (.int x)) h) : Ex E d M pc L [.int x] h Q := Ex_end hd rfl rfl (by simp only [am_ret, ht]; rw [if_pos hn]) p
theorem Ex_lret {x : Int64} (hd : decode M.2.2.1 pc = .ok (.lreturn, 1)) (ht : M.2.2.2.2 = some .long) (p : Q (some (.long x)) h) : Ex E d M pc L [.long x] h Q := Ex_end hd rfl rfl (by simp only [am_ret, ht]) p
theorem Ex_aret {v : Value} {nm : String} (hd : decode M.2.2.1 pc = .ok (.areturn, 1)) (ht : M.2.2.2.2 = some (.object nm)) (hv : am_isR v = true) (p : Q (some v) h) : Ex E d M pc L [v] h Q := Ex_end hd rfl rfl (by simp only [am_ret, ht]; rw [if_pos hv]) p
theorem Ex_vret (hd : decode M.2.2.1 pc = .ok (.return_, 1)) (ht : M.2.2.2.2 = none) (p : Q none h) : Ex E d M pc L [] h Q := Ex_end hd rfl rfl (by simp only [am_ret, ht]) p
theorem Ex_call {op i mode n : Nat} {ts : List Nat} {C : Mth} {ins : Instr} {vs rest L0 : List Value} (hd : decode M.2.2.1 pc = .ok (ins, 3)) (hop : am_op ins = some (op, i)) (hi : am_inv M.1 op i = some (mode, n, ts, C)) (hm : mode ≤ 4) (hn : Nat.ble n S.length = true) (hvs : (S.take n).reverse = vs) (hrest : S.drop n = rest) (hcat : Nat.ble (am_cats rest) 8 = true) (hrc : am_rc mode ts vs h = true) (hsl : Nat.ble (am_sl vs).length C.2.2.2.1 = true) (hloc : am_loc vs C.2.2.2.1 = L0) (hq : pc + 3 = q)
    (k : Ex E d C 0 L0 [] h (fun r h1 => Ex E (d + 1) M q L (r.toList ++ rest) h1 Q)) : Ex E (d + 1) M pc L S h Q := by
  subst hq; subst hvs; subst hrest; subst hloc
  obtain ⟨F1, r1, h1, e1, F2, r2, h2, e2, p⟩ := k
  refine ⟨max F1 F2 + 1, r2, h2, ?_, p⟩
  have hl : am_lok ins 3 = true := by cases ins <;> first | rfl | cases hop
  have a1 := am_up _ _ _ _ _ _ _ _ e1 (max F1 F2) d (Nat.le_max_left _ _) (Nat.le_refl _)
  have a2 := am_up _ _ _ _ _ _ _ _ e2 (max F1 F2) (d + 1) (Nat.le_max_right _ _) (Nat.le_refl _)
  simp only [am, hd, hl, hop, hi, if_true]
  rw [if_pos ⟨Nat.le_of_ble_eq_true hn, Nat.le_of_ble_eq_true hcat, hrc, fun _ => Nat.le_of_ble_eq_true hsl, fun z => absurd z (by omega)⟩, if_pos hm]
  simp only [a1]
  exact a2
/-- a virtual call -/
theorem Ex_inv {i n b tg : Nat} {ts : List Nat} {C : Mth} {fs As rest L0 : List Value} (mode : Nat) (hd : decode M.2.2.1 pc = .ok (.invokevirtual i, 3)) (hq : pc + 3 = q) (hi : am_inv M.1 0 i = some (mode, n, ts, C)) (hm : mode = 2 ∨ mode = 3) (hn : Nat.ble n S.length = true) (hvs : (S.take n).reverse = .ref b :: As) (hrest : S.drop n = rest) (hcat : Nat.ble (am_cats rest) 8 = true) (hb : h.1 b = some (tg, fs)) (ht : ts.contains tg = true) (hsl : Nat.ble (am_sl (.ref b :: As)).length C.2.2.2.1 = true) (hloc : am_loc (.ref b :: As) C.2.2.2.1 = L0)
    (k : Ex E d C 0 L0 [] h (fun r h1 => Ex E (d + 1) M q L (r.toList ++ rest) h1 Q)) : Ex E (d + 1) M pc L S h Q :=
  Ex_call hd rfl hi (by omega) hn hvs hrest hcat (by rcases hm with rfl | rfl <;> simp only [am_rc, hb] <;> exact ht) hsl hloc hq k
/-- a static call -/
theorem Ex_stat {i n : Nat} {ts : List Nat} {C : Mth} {vs rest L0 : List Value} (mode : Nat) (hd : decode M.2.2.1 pc = .ok (.invokestatic i, 3)) (hq : pc + 3 = q) (hi : am_inv M.1 2 i = some (mode, n, ts, C)) (hm : mode = 0 ∨ mode = 1) (hn : Nat.ble n S.length = true) (hvs : (S.take n).reverse = vs) (hrest : S.drop n = rest) (hcat : Nat.ble (am_cats rest) 8 = true) (hsl : Nat.ble (am_sl vs).length C.2.2.2.1 = true) (hloc : am_loc vs C.2.2.2.1 = L0)
    (k : Ex E d C 0 L0 [] h (fun r h1 => Ex E (d + 1) M q L (r.toList ++ rest) h1 Q)) : Ex E (d + 1) M pc L S h Q :=
  Ex_call hd rfl hi (by omega) hn hvs hrest hcat (by rcases hm with rfl | rfl <;> rfl) hsl hloc hq k
/-- a constructor -/
theorem Ex_spec {i n b : Nat} {ts : List Nat} {C : Mth} {As rest L0 : List Value} (hd : decode M.2.2.1 pc = .ok (.invokespecial i, 3)) (hq : pc + 3 = q) (hi : am_inv M.1 1 i = some (4, n, ts, C)) (hn : Nat.ble n S.length = true) (hvs : (S.take n).reverse = .ref b :: As) (hrest : S.drop n = rest) (hcat : Nat.ble (am_cats rest) 8 = true) (hsl : Nat.ble (am_sl (.ref b :: As)).length C.2.2.2.1 = true) (hloc : am_loc (.ref b :: As) C.2.2.2.1 = L0)
    (k : Ex E d C 0 L0 [] h (fun r h1 => Ex E (d + 1) M q L (r.toList ++ rest) h1 Q)) : Ex E (d + 1) M pc L S h Q :=
  Ex_call hd rfl hi (by omega) hn hvs hrest hcat rfl hsl hloc hq k
theorem Ex_bi {op i mode n : Nat} {ts : List Nat} {C : Mth} {ins : Instr} {vs rest : List Value} {r1 : Option Value} {h1 : Hp} (hd : decode M.2.2.1 pc = .ok (ins, 3)) (hop : am_op ins = some (op, i)) (hi : am_inv M.1 op i = some (mode, n, ts, C)) (hm : 4 < mode ∧ mode ≤ 9) (hn : Nat.ble n S.length = true) (hvs : (S.take n).reverse = vs) (hrest : S.drop n = rest) (hcat : Nat.ble (am_cats rest) 8 = true) (hrc : am_rc mode ts vs h = true) (hb : am_bi E.2 mode vs h = some (r1, h1)) (hq : pc + 3 = q)
    (k : Ex E (d + 1) M q L (r1.toList ++ rest) h1 Q) : Ex E (d + 1) M pc L S h Q := by
  subst hq; subst hvs; subst hrest
  obtain ⟨F2, r2, h2, e2, p⟩ := k
  refine ⟨F2 + 1, r2, h2, ?_, p⟩
  have hl : am_lok ins 3 = true := by cases ins <;> first | rfl | cases hop
  simp only [am, hd, hl, hop, hi, if_true]
  rw [if_pos ⟨Nat.le_of_ble_eq_true hn, Nat.le_of_ble_eq_true hcat, hrc, fun z => absurd z (by omega), fun z => absurd z (by omega)⟩, if_neg (by omega), if_pos hm.2]
  simp only [hb]
  exact e2
theorem Ex_obj {i b : Nat} {ts : List Nat} {C : Mth} {rest : List Value} (hd : decode M.2.2.1 pc = .ok (.invokespecial i, 3)) (hq : pc + 3 = q) (hi : am_inv M.1 1 i = some (5, 1, ts, C)) (hcat : Nat.ble (am_cats rest) 8 = true) (k : Ex E (d + 1) M q L rest h Q) : Ex E (d + 1) M pc L (.ref b :: rest) h Q :=
  Ex_bi (n := 1) (r1 := none) (h1 := h) hd rfl hi (by omega) rfl rfl rfl hcat rfl rfl hq k
theorem Ex_max {i : Nat} {a b : Int} {ts : List Nat} {C : Mth} {rest : List Value} (hd : decode M.2.2.1 pc = .ok (.invokestatic i, 3)) (hq : pc + 3 = q) (hi : am_inv M.1 2 i = some (6, 2, ts, C)) (hcat : Nat.ble (am_cats rest) 8 = true) (hR : (-2147483648 ≤ a ∧ a ≤ 2147483647) ∧ (-2147483648 ≤ b ∧ b ≤ 2147483647)) (k : Ex E (d + 1) M q L (.int (i32 (max a b)) :: rest) h Q) : Ex E (d + 1) M pc L (.int (i32 b) :: .int (i32 a) :: rest) h Q :=
  Ex_bi (r1 := some (.int (i32 (max a b)))) (h1 := h) hd rfl hi (by omega) rfl rfl rfl hcat rfl (by rw [← i32_max hR]; rfl) hq k
theorem Ex_min {i : Nat} {a b : Int} {ts : List Nat} {C : Mth} {rest : List Value} (hd : decode M.2.2.1 pc = .ok (.invokestatic i, 3)) (hq : pc + 3 = q) (hi : am_inv M.1 2 i = some (7, 2, ts, C)) (hcat : Nat.ble (am_cats rest) 8 = true) (hR : (-2147483648 ≤ a ∧ a ≤ 2147483647) ∧ (-2147483648 ≤ b ∧ b ≤ 2147483647)) (k : Ex E (d + 1) M q L (.int (i32 (min a b)) :: rest) h Q) : Ex E (d + 1) M pc L (.int (i32 b) :: .int (i32 a) :: rest) h Q :=
  Ex_bi (r1 := some (.int (i32 (min a b)))) (h1 := h) hd rfl hi (by omega) rfl rfl rfl hcat rfl (by rw [← i32_min hR]; rfl) hq k
theorem Ex_abs {i : Nat} {a : Int} {ts : List Nat} {C : Mth} {rest : List Value} (hd : decode M.2.2.1 pc = .ok (.invokestatic i, 3)) (hq : pc + 3 = q) (hi : am_inv M.1 2 i = some (8, 1, ts, C)) (hcat : Nat.ble (am_cats rest) 8 = true) (hR : -2147483648 ≤ a ∧ a ≤ 2147483647) (k : Ex E (d + 1) M q L (.int (i32 (if 0 ≤ a then a else -a)) :: rest) h Q) : Ex E (d + 1) M pc L (.int (i32 a) :: rest) h Q :=
  Ex_bi (r1 := some (.int (i32 (if 0 ≤ a then a else -a)))) (h1 := h) hd rfl hi (by omega) rfl rfl rfl hcat rfl (by rw [← i32_abs hR]; rfl) hq k
theorem Ex_copy {i a0 a : Nat} {sp dp n : Int} {f g f2 : List Value} {ts : List Nat} {C : Mth} {rest : List Value} (hd : decode M.2.2.1 pc = .ok (.invokestatic i, 3)) (hq : pc + 3 = q) (hi : am_inv M.1 2 i = some (9, 5, ts, C)) (hcat : Nat.ble (am_cats rest) 8 = true) (ha0 : h.1 a0 = some (20, f)) (ha : h.1 a = some (20, g)) (h1 : 0 ≤ sp ∧ sp ≤ 2147483647) (h2 : 0 ≤ dp ∧ dp ≤ 2147483647) (h3 : 0 ≤ n ∧ n ≤ 2147483647) (h4 : sp.toNat + n.toNat ≤ f.length) (h5 : dp.toNat + n.toNat ≤ g.length) (hf : f.all am_isI = true) (hg : g.all am_isI = true) (hB : E.2 ≤ a) (hs : am_cpy f g sp.toNat dp.toNat n.toNat = f2)
    (k : Ex E (d + 1) M q L rest (am_put h a (20, f2)) Q) : Ex E (d + 1) M pc L (.int (i32 n) :: .int (i32 dp) :: .ref a :: .int (i32 sp) :: .ref a0 :: rest) h Q :=
  Ex_bi (r1 := none) (h1 := am_put h a (20, f2)) hd rfl hi (by omega) rfl rfl rfl hcat rfl (by
    subst hs
    show (match h.1 a0, h.1 a with
      | some (t0, f), some (t1, g) => if t0 = 20 ∧ t1 = 20 ∧ ¬ i32 sp < 0 ∧ ¬ i32 dp < 0 ∧ ¬ i32 n < 0 ∧ (i32 sp).toNatClampNeg + (i32 n).toNatClampNeg ≤ f.length ∧ (i32 dp).toNatClampNeg + (i32 n).toNatClampNeg ≤ g.length ∧ f.all am_isI = true ∧ g.all am_isI = true ∧ E.2 ≤ a then
          some (none, am_put h a (20, am_cpy f g (i32 sp).toNatClampNeg (i32 dp).toNatClampNeg (i32 n).toNatClampNeg)) else none
      | _, _ => none) = _
    rw [ha0, ha]
    simp only [i32_nat h1, i32_nat h2, i32_nat h3]
    rw [if_pos ⟨trivial, trivial, i32_nneg h1, i32_nneg h2, i32_nneg h3, h4, h5, hf, hg, hB⟩]) hq k
theorem Ex_or {op i mode n : Nat} {ts : List Nat} {C : Mth} {ins : Instr} {vs rest : List Value} {r1 : Option Value} {h1 : Hp} (hd : decode M.2.2.1 pc = .ok (ins, 3)) (hop : am_op ins = some (op, i)) (hi : am_inv M.1 op i = some (mode, n, ts, C)) (hm : 9 < mode) (hd20 : 20 ≤ d) (hn : Nat.ble n S.length = true) (hvs : (S.take n).reverse = vs) (hrest : S.drop n = rest) (hcat : Nat.ble (am_cats rest) 8 = true) (hrc : am_rc mode ts vs h = true) (hb : E.1 mode vs h = some (r1, h1)) (hq : pc + 3 = q)
    (k : Ex E (d + 1) M q L (r1.toList ++ rest) h1 Q) : Ex E (d + 1) M pc L S h Q := by
  subst hq; subst hvs; subst hrest
  obtain ⟨F2, r2, h2, e2, p⟩ := k
  refine ⟨F2 + 1, r2, h2, ?_, p⟩
  have hl : am_lok ins 3 = true := by cases ins <;> first | rfl | cases hop
  simp only [am, hd, hl, hop, hi, if_true]
  rw [if_pos ⟨Nat.le_of_ble_eq_true hn, Nat.le_of_ble_eq_true hcat, hrc, fun z => absurd z (by omega), fun _ => hd20⟩, if_neg (by omega), if_neg (by omega)]
  simp only [hb]
  exact e2
end EX
theorem am_pg (h : Hp) (a b : Nat) (x : OC) : (am_put h a x).1 b = if b = a then some x else h.1 b := rfl
theorem am_pg1 (h : Hp) (a : Nat) (x : OC) : (am_put h a x).1 a = some x := by rw [am_pg, if_pos rfl]
theorem am_pg2 {h : Hp} {a b : Nat} {x : OC} (hb : b ≠ a) : (am_put h a x).1 b = h.1 b := by rw [am_pg, if_neg hb]
theorem am_ng (h : Hp) (b n : Nat) (x : OC) : (am_new h x n).1 b = if b = h.2.1 then some x else h.1 b := rfl
theorem am_pn (h : Hp) (a : Nat) (x : OC) : (am_put h a x).2 = h.2 := rfl
theorem am_put2 (h : Hp) (a : Nat) (x y : OC) : am_put (am_put h a x) a y = am_put h a y := by
  unfold am_put
  congr 1
  funext q
  by_cases c : q = a <;> simp [c]
