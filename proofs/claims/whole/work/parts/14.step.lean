/-! the small machine's steps are the machine's: one law an instruction -/
theorem am_ac20 : Cond.arrayClass (newarray.typeOf .int) ∈ lw_good := am_w_in (p := 215) (by decide +kernel)
theorem am_ac21 : Cond.arrayClass (newarray.typeOf .long) ∈ lw_good := am_w_in (p := 1165) (by decide +kernel)
section STEP
variable {p : Program} {l : Launch} {e : Env} {R : Room} {s : State} {m : MethodId} {args : Array Value} {below : List Frame} {meth : Method} {c : Code} {Q : State → Prop} {D : am_D} {B : Nat} {M : Mth} {cells slots pc : Nat} {L S : List Value} {h : Hp}
theorem am_v_iconst (X : am_Cx D p s m args meth c M) {n : Int} (hdg : decode M.2.2.1 pc = .ok (.iconst n, 1)) (k : am_V p l e R s m args below meth c Q D B M cells slots (pc + 1) L (.int (Int32.ofInt n) :: S) h) : am_V p l e R s m args below meth c Q D B M cells slots pc L S h := by
  obtain ⟨hx, hb, hml, hr, hlk, hown, hts, hK, hnm, hM⟩ := X
  intro H locs ls hP hL hF
  exact lv_iconst hx hb hdg rfl (k H locs ls hP hL hF)
theorem am_v_bipush (X : am_Cx D p s m args meth c M) {n : Int} (hdg : decode M.2.2.1 pc = .ok (.bipush n, 2)) (k : am_V p l e R s m args below meth c Q D B M cells slots (pc + 2) L (.int (Int8.ofInt n).toInt32 :: S) h) : am_V p l e R s m args below meth c Q D B M cells slots pc L S h := by
  obtain ⟨hx, hb, hml, hr, hlk, hown, hts, hK, hnm, hM⟩ := X
  intro H locs ls hP hL hF
  exact lv_bipush hx hb hdg rfl (k H locs ls hP hL hF)
theorem am_v_sipush (X : am_Cx D p s m args meth c M) {n : Int} (hdg : decode M.2.2.1 pc = .ok (.sipush n, 3)) (k : am_V p l e R s m args below meth c Q D B M cells slots (pc + 3) L (.int (Int16.ofInt n).toInt32 :: S) h) : am_V p l e R s m args below meth c Q D B M cells slots pc L S h := by
  obtain ⟨hx, hb, hml, hr, hlk, hown, hts, hK, hnm, hM⟩ := X
  intro H locs ls hP hL hF
  exact lv_sipush hx hb hdg rfl (k H locs ls hP hL hF)
theorem am_v_lconst (X : am_Cx D p s m args meth c M) {n : Fin 2} (hdg : decode M.2.2.1 pc = .ok (.lconst n, 1)) (k : am_V p l e R s m args below meth c Q D B M cells slots (pc + 1) L (.long (Int64.ofNat (n : Nat)) :: S) h) : am_V p l e R s m args below meth c Q D B M cells slots pc L S h := by
  obtain ⟨hx, hb, hml, hr, hlk, hown, hts, hK, hnm, hM⟩ := X
  intro H locs ls hP hL hF
  exact lv_lconst hx hb hdg rfl (k H locs ls hP hL hF)
theorem am_v_aconst_null (X : am_Cx D p s m args meth c M)  (hdg : decode M.2.2.1 pc = .ok (.aconst_null, 1)) (k : am_V p l e R s m args below meth c Q D B M cells slots (pc + 1) L (.null :: S) h) : am_V p l e R s m args below meth c Q D B M cells slots pc L S h := by
  obtain ⟨hx, hb, hml, hr, hlk, hown, hts, hK, hnm, hM⟩ := X
  intro H locs ls hP hL hF
  exact lv_null hx hb hdg (k H locs ls hP hL hF)
theorem am_v_iadd (X : am_Cx D p s m args meth c M) {x y : Int32} (hdg : decode M.2.2.1 pc = .ok (.iadd, 1)) (k : am_V p l e R s m args below meth c Q D B M cells slots (pc + 1) L (.int (x + y) :: S) h) : am_V p l e R s m args below meth c Q D B M cells slots pc L (.int y :: .int x :: S) h := by
  obtain ⟨hx, hb, hml, hr, hlk, hown, hts, hK, hnm, hM⟩ := X
  intro H locs ls hP hL hF
  exact lv_iadd hx hb hdg (k H locs ls hP hL hF)
theorem am_v_isub (X : am_Cx D p s m args meth c M) {x y : Int32} (hdg : decode M.2.2.1 pc = .ok (.isub, 1)) (k : am_V p l e R s m args below meth c Q D B M cells slots (pc + 1) L (.int (x - y) :: S) h) : am_V p l e R s m args below meth c Q D B M cells slots pc L (.int y :: .int x :: S) h := by
  obtain ⟨hx, hb, hml, hr, hlk, hown, hts, hK, hnm, hM⟩ := X
  intro H locs ls hP hL hF
  exact lv_isub hx hb hdg (k H locs ls hP hL hF)
theorem am_v_imul (X : am_Cx D p s m args meth c M) {x y : Int32} (hdg : decode M.2.2.1 pc = .ok (.imul, 1)) (k : am_V p l e R s m args below meth c Q D B M cells slots (pc + 1) L (.int (x * y) :: S) h) : am_V p l e R s m args below meth c Q D B M cells slots pc L (.int y :: .int x :: S) h := by
  obtain ⟨hx, hb, hml, hr, hlk, hown, hts, hK, hnm, hM⟩ := X
  intro H locs ls hP hL hF
  exact lv_imul hx hb hdg (k H locs ls hP hL hF)
theorem am_v_iand (X : am_Cx D p s m args meth c M) {x y : Int32} (hdg : decode M.2.2.1 pc = .ok (.iand, 1)) (k : am_V p l e R s m args below meth c Q D B M cells slots (pc + 1) L (.int (x &&& y) :: S) h) : am_V p l e R s m args below meth c Q D B M cells slots pc L (.int y :: .int x :: S) h := by
  obtain ⟨hx, hb, hml, hr, hlk, hown, hts, hK, hnm, hM⟩ := X
  intro H locs ls hP hL hF
  exact lv_iand hx hb hdg (k H locs ls hP hL hF)
theorem am_v_ior (X : am_Cx D p s m args meth c M) {x y : Int32} (hdg : decode M.2.2.1 pc = .ok (.ior, 1)) (k : am_V p l e R s m args below meth c Q D B M cells slots (pc + 1) L (.int (x ||| y) :: S) h) : am_V p l e R s m args below meth c Q D B M cells slots pc L (.int y :: .int x :: S) h := by
  obtain ⟨hx, hb, hml, hr, hlk, hown, hts, hK, hnm, hM⟩ := X
  intro H locs ls hP hL hF
  exact lv_ior hx hb hdg (k H locs ls hP hL hF)
theorem am_v_ishl (X : am_Cx D p s m args meth c M) {x y : Int32} (hdg : decode M.2.2.1 pc = .ok (.ishl, 1)) (k : am_V p l e R s m args below meth c Q D B M cells slots (pc + 1) L (.int (x <<< (y &&& 31)) :: S) h) : am_V p l e R s m args below meth c Q D B M cells slots pc L (.int y :: .int x :: S) h := by
  obtain ⟨hx, hb, hml, hr, hlk, hown, hts, hK, hnm, hM⟩ := X
  intro H locs ls hP hL hF
  exact lv_ishl hx hb hdg (k H locs ls hP hL hF)
theorem am_v_ishr (X : am_Cx D p s m args meth c M) {x y : Int32} (hdg : decode M.2.2.1 pc = .ok (.ishr, 1)) (k : am_V p l e R s m args below meth c Q D B M cells slots (pc + 1) L (.int (x >>> (y &&& 31)) :: S) h) : am_V p l e R s m args below meth c Q D B M cells slots pc L (.int y :: .int x :: S) h := by
  obtain ⟨hx, hb, hml, hr, hlk, hown, hts, hK, hnm, hM⟩ := X
  intro H locs ls hP hL hF
  exact lv_ishr hx hb hdg (k H locs ls hP hL hF)
theorem am_v_iushr (X : am_Cx D p s m args meth c M) {x y : Int32} (hdg : decode M.2.2.1 pc = .ok (.iushr, 1)) (k : am_V p l e R s m args below meth c Q D B M cells slots (pc + 1) L (.int (x.toUInt32 >>> (y.toUInt32 &&& Int32.toUInt32 31)).toInt32 :: S) h) : am_V p l e R s m args below meth c Q D B M cells slots pc L (.int y :: .int x :: S) h := by
  obtain ⟨hx, hb, hml, hr, hlk, hown, hts, hK, hnm, hM⟩ := X
  intro H locs ls hP hL hF
  exact lv_iushr hx hb hdg rfl (k H locs ls hP hL hF)
theorem am_v_idiv (X : am_Cx D p s m args meth c M) {x y : Int32} (hne : ¬ y = 0) (hdg : decode M.2.2.1 pc = .ok (.idiv, 1)) (k : am_V p l e R s m args below meth c Q D B M cells slots (pc + 1) L (.int (x / y) :: S) h) : am_V p l e R s m args below meth c Q D B M cells slots pc L (.int y :: .int x :: S) h := by
  obtain ⟨hx, hb, hml, hr, hlk, hown, hts, hK, hnm, hM⟩ := X
  intro H locs ls hP hL hF
  exact lv_idiv hx hb hdg hne (k H locs ls hP hL hF)
theorem am_v_irem (X : am_Cx D p s m args meth c M) {x y : Int32} (hne : ¬ y = 0) (hdg : decode M.2.2.1 pc = .ok (.irem, 1)) (k : am_V p l e R s m args below meth c Q D B M cells slots (pc + 1) L (.int (x - x / y * y) :: S) h) : am_V p l e R s m args below meth c Q D B M cells slots pc L (.int y :: .int x :: S) h := by
  obtain ⟨hx, hb, hml, hr, hlk, hown, hts, hK, hnm, hM⟩ := X
  intro H locs ls hP hL hF
  exact lv_irem hx hb hdg hne (k H locs ls hP hL hF)
theorem am_v_ineg (X : am_Cx D p s m args meth c M) {x : Int32} (hdg : decode M.2.2.1 pc = .ok (.ineg, 1)) (k : am_V p l e R s m args below meth c Q D B M cells slots (pc + 1) L (.int (-x) :: S) h) : am_V p l e R s m args below meth c Q D B M cells slots pc L (.int x :: S) h := by
  obtain ⟨hx, hb, hml, hr, hlk, hown, hts, hK, hnm, hM⟩ := X
  intro H locs ls hP hL hF
  exact lv_ineg hx hb hdg (k H locs ls hP hL hF)
theorem am_v_ladd (X : am_Cx D p s m args meth c M) {x y : Int64} (hdg : decode M.2.2.1 pc = .ok (.ladd, 1)) (k : am_V p l e R s m args below meth c Q D B M cells slots (pc + 1) L (.long (x + y) :: S) h) : am_V p l e R s m args below meth c Q D B M cells slots pc L (.long y :: .long x :: S) h := by
  obtain ⟨hx, hb, hml, hr, hlk, hown, hts, hK, hnm, hM⟩ := X
  intro H locs ls hP hL hF
  exact lv_ladd hx hb hdg (k H locs ls hP hL hF)
theorem am_v_lmul (X : am_Cx D p s m args meth c M) {x y : Int64} (hdg : decode M.2.2.1 pc = .ok (.lmul, 1)) (k : am_V p l e R s m args below meth c Q D B M cells slots (pc + 1) L (.long (x * y) :: S) h) : am_V p l e R s m args below meth c Q D B M cells slots pc L (.long y :: .long x :: S) h := by
  obtain ⟨hx, hb, hml, hr, hlk, hown, hts, hK, hnm, hM⟩ := X
  intro H locs ls hP hL hF
  exact lv_lmul hx hb hdg (k H locs ls hP hL hF)
theorem am_v_ldiv (X : am_Cx D p s m args meth c M) {x y : Int64} (hne : ¬ y = 0) (hdg : decode M.2.2.1 pc = .ok (.ldiv, 1)) (k : am_V p l e R s m args below meth c Q D B M cells slots (pc + 1) L (.long (x / y) :: S) h) : am_V p l e R s m args below meth c Q D B M cells slots pc L (.long y :: .long x :: S) h := by
  obtain ⟨hx, hb, hml, hr, hlk, hown, hts, hK, hnm, hM⟩ := X
  intro H locs ls hP hL hF
  exact lv_ldiv hx hb hdg hne (k H locs ls hP hL hF)
theorem am_v_lrem (X : am_Cx D p s m args meth c M) {x y : Int64} (hne : ¬ y = 0) (hdg : decode M.2.2.1 pc = .ok (.lrem, 1)) (k : am_V p l e R s m args below meth c Q D B M cells slots (pc + 1) L (.long (x - x / y * y) :: S) h) : am_V p l e R s m args below meth c Q D B M cells slots pc L (.long y :: .long x :: S) h := by
  obtain ⟨hx, hb, hml, hr, hlk, hown, hts, hK, hnm, hM⟩ := X
  intro H locs ls hP hL hF
  exact lv_lrem hx hb hdg hne (k H locs ls hP hL hF)
theorem am_v_lcmp (X : am_Cx D p s m args meth c M) {x y : Int64} (hdg : decode M.2.2.1 pc = .ok (.lcmp, 1)) (k : am_V p l e R s m args below meth c Q D B M cells slots (pc + 1) L (.int (lg_cmp x y) :: S) h) : am_V p l e R s m args below meth c Q D B M cells slots pc L (.long y :: .long x :: S) h := by
  obtain ⟨hx, hb, hml, hr, hlk, hown, hts, hK, hnm, hM⟩ := X
  intro H locs ls hP hL hF
  exact W.lcmp hx hb hdg (k H locs ls hP hL hF)
theorem am_v_i2l (X : am_Cx D p s m args meth c M) {x : Int32} (hdg : decode M.2.2.1 pc = .ok (.i2l, 1)) (k : am_V p l e R s m args below meth c Q D B M cells slots (pc + 1) L (.long x.toInt64 :: S) h) : am_V p l e R s m args below meth c Q D B M cells slots pc L (.int x :: S) h := by
  obtain ⟨hx, hb, hml, hr, hlk, hown, hts, hK, hnm, hM⟩ := X
  intro H locs ls hP hL hF
  exact lv_i2l hx hb hdg rfl (k H locs ls hP hL hF)
theorem am_v_l2i (X : am_Cx D p s m args meth c M) {x : Int64} (hdg : decode M.2.2.1 pc = .ok (.l2i, 1)) (k : am_V p l e R s m args below meth c Q D B M cells slots (pc + 1) L (.int x.toInt32 :: S) h) : am_V p l e R s m args below meth c Q D B M cells slots pc L (.long x :: S) h := by
  obtain ⟨hx, hb, hml, hr, hlk, hown, hts, hK, hnm, hM⟩ := X
  intro H locs ls hP hL hF
  exact lv_l2i hx hb hdg rfl (k H locs ls hP hL hF)
theorem am_v_i2b (X : am_Cx D p s m args meth c M) {x : Int32} (hdg : decode M.2.2.1 pc = .ok (.i2b, 1)) (k : am_V p l e R s m args below meth c Q D B M cells slots (pc + 1) L (.int x.toInt8.toInt32 :: S) h) : am_V p l e R s m args below meth c Q D B M cells slots pc L (.int x :: S) h := by
  obtain ⟨hx, hb, hml, hr, hlk, hown, hts, hK, hnm, hM⟩ := X
  intro H locs ls hP hL hF
  exact lv_i2b hx hb hdg rfl (k H locs ls hP hL hF)
theorem am_v_i2s (X : am_Cx D p s m args meth c M) {x : Int32} (hdg : decode M.2.2.1 pc = .ok (.i2s, 1)) (k : am_V p l e R s m args below meth c Q D B M cells slots (pc + 1) L (.int x.toInt16.toInt32 :: S) h) : am_V p l e R s m args below meth c Q D B M cells slots pc L (.int x :: S) h := by
  obtain ⟨hx, hb, hml, hr, hlk, hown, hts, hK, hnm, hM⟩ := X
  intro H locs ls hP hL hF
  exact lv_i2s hx hb hdg rfl (k H locs ls hP hL hF)
theorem am_v_dup (X : am_Cx D p s m args meth c M) {v : Value} (hv : v.category = 1) (hdg : decode M.2.2.1 pc = .ok (.dup, 1)) (k : am_V p l e R s m args below meth c Q D B M cells slots (pc + 1) L (v :: v :: S) h) : am_V p l e R s m args below meth c Q D B M cells slots pc L (v :: S) h := by
  obtain ⟨hx, hb, hml, hr, hlk, hown, hts, hK, hnm, hM⟩ := X
  intro H locs ls hP hL hF
  exact lv_dup hx hb hdg hv (k H locs ls hP hL hF)
theorem am_v_pop (X : am_Cx D p s m args meth c M) {v : Value} (hv : v.category = 1) (hdg : decode M.2.2.1 pc = .ok (.pop, 1)) (k : am_V p l e R s m args below meth c Q D B M cells slots (pc + 1) L S h) : am_V p l e R s m args below meth c Q D B M cells slots pc L (v :: S) h := by
  obtain ⟨hx, hb, hml, hr, hlk, hown, hts, hK, hnm, hM⟩ := X
  intro H locs ls hP hL hF
  exact lv_pop hx hb hdg hv (k H locs ls hP hL hF)
theorem am_v_dup2 (X : am_Cx D p s m args meth c M) {v w : Value} (hv : v.category = 1) (hw : w.category = 1) (hdg : decode M.2.2.1 pc = .ok (.dup2, 1)) (k : am_V p l e R s m args below meth c Q D B M cells slots (pc + 1) L (v :: w :: v :: w :: S) h) : am_V p l e R s m args below meth c Q D B M cells slots pc L (v :: w :: S) h := by
  obtain ⟨hx, hb, hml, hr, hlk, hown, hts, hK, hnm, hM⟩ := X
  intro H locs ls hP hL hF
  exact lv_dup2_11 hx hb hdg hv hw (k H locs ls hP hL hF)
theorem am_v_ldc (X : am_Cx D p s m args meth c M) {i : Nat} {v : Int32} (hk : am_k M.1 i = some v) (hdg : decode M.2.2.1 pc = .ok (.ldc i, 2)) (k : am_V p l e R s m args below meth c Q D B M cells slots (pc + 2) L (.int v :: S) h) : am_V p l e R s m args below meth c Q D B M cells slots pc L S h := by
  obtain ⟨hx, hb, hml, hr, hlk, hown, hts, hK, hnm, hM⟩ := X
  unfold am_k at hk
  rw [Option.map_eq_some_iff] at hk
  obtain ⟨q, hq, hv⟩ := hk
  have hi : q.1 = i := by simpa using List.find?_some hq
  have hw := am_w_in (List.all_eq_true.mp (am_kck_ok M.1 hM) q (List.mem_of_find?_eq_some hq))
  subst hv
  subst hi
  intro H locs ls hP hL hF
  exact lv_ldc hx hb hown (hts _ hw) hdg (k H locs ls hP hL hF)
theorem am_v_ldc_w (X : am_Cx D p s m args meth c M) {i : Nat} {v : Int32} (hk : am_k M.1 i = some v) (hdg : decode M.2.2.1 pc = .ok (.ldc_w i, 3)) (k : am_V p l e R s m args below meth c Q D B M cells slots (pc + 3) L (.int v :: S) h) : am_V p l e R s m args below meth c Q D B M cells slots pc L S h := by
  obtain ⟨hx, hb, hml, hr, hlk, hown, hts, hK, hnm, hM⟩ := X
  unfold am_k at hk
  rw [Option.map_eq_some_iff] at hk
  obtain ⟨q, hq, hv⟩ := hk
  have hi : q.1 = i := by simpa using List.find?_some hq
  have hw := am_w_in (List.all_eq_true.mp (am_kck_ok M.1 hM) q (List.mem_of_find?_eq_some hq))
  subst hv
  subst hi
  intro H locs ls hP hL hF
  exact lv_ldcw hx hb hown (hts _ hw) hdg (k H locs ls hP hL hF)
theorem am_v_ldc2 (X : am_Cx D p s m args meth c M) {i : Nat} {v : Int64} (hk : am_k2 M.1 i = some v) (hdg : decode M.2.2.1 pc = .ok (.ldc2_w i, 3)) (k : am_V p l e R s m args below meth c Q D B M cells slots (pc + 3) L (.long v :: S) h) : am_V p l e R s m args below meth c Q D B M cells slots pc L S h := by
  obtain ⟨hx, hb, hml, hr, hlk, hown, hts, hK, hnm, hM⟩ := X
  unfold am_k2 at hk
  rw [Option.map_eq_some_iff] at hk
  obtain ⟨q, hq, hv⟩ := hk
  have hi : q.1 = i := by simpa using List.find?_some hq
  have hw := am_w_in (List.all_eq_true.mp (am_k2ck_ok M.1 hM) q (List.mem_of_find?_eq_some hq))
  subst hv
  subst hi
  intro H locs ls hP hL hF
  exact lv_ldc2 hx hb hown (hts _ hw) hdg (k H locs ls hP hL hF)
theorem am_v_iload_n (X : am_Cx D p s m args meth c M) {k0 : Fin 4} {x : Int32} (hi : L[k0.val]? = some (.int x)) (hdg : decode M.2.2.1 pc = .ok (.iload_n k0, 1)) (k : am_V p l e R s m args below meth c Q D B M cells slots (pc + 1) L (.int x :: S) h) : am_V p l e R s m args below meth c Q D B M cells slots pc L S h := by
  obtain ⟨hx, hb, hml, hr, hlk, hown, hts, hK, hnm, hM⟩ := X
  intro H locs ls hP hL hF
  exact lv_iload_n hx hb hdg rfl (hL.get hi (fun z hz => by cases hz)) (k H locs ls hP hL hF)
theorem am_v_iload (X : am_Cx D p s m args meth c M) {i : Nat} {x : Int32} (hi : L[i]? = some (.int x)) (hdg : decode M.2.2.1 pc = .ok (.iload i, 2)) (k : am_V p l e R s m args below meth c Q D B M cells slots (pc + 2) L (.int x :: S) h) : am_V p l e R s m args below meth c Q D B M cells slots pc L S h := by
  obtain ⟨hx, hb, hml, hr, hlk, hown, hts, hK, hnm, hM⟩ := X
  intro H locs ls hP hL hF
  exact lv_iload hx hb hdg (hL.get hi (fun z hz => by cases hz)) (k H locs ls hP hL hF)
theorem am_v_lload_n (X : am_Cx D p s m args meth c M) {k0 : Fin 4} {x : Int64} (hi : L[k0.val]? = some (.long x)) (hdg : decode M.2.2.1 pc = .ok (.lload_n k0, 1)) (k : am_V p l e R s m args below meth c Q D B M cells slots (pc + 1) L (.long x :: S) h) : am_V p l e R s m args below meth c Q D B M cells slots pc L S h := by
  obtain ⟨hx, hb, hml, hr, hlk, hown, hts, hK, hnm, hM⟩ := X
  intro H locs ls hP hL hF
  exact lv_lload_n hx hb hdg rfl (hL.get hi (fun z hz => by cases hz)) (k H locs ls hP hL hF)
theorem am_v_lload (X : am_Cx D p s m args meth c M) {i : Nat} {x : Int64} (hi : L[i]? = some (.long x)) (hdg : decode M.2.2.1 pc = .ok (.lload i, 2)) (k : am_V p l e R s m args below meth c Q D B M cells slots (pc + 2) L (.long x :: S) h) : am_V p l e R s m args below meth c Q D B M cells slots pc L S h := by
  obtain ⟨hx, hb, hml, hr, hlk, hown, hts, hK, hnm, hM⟩ := X
  intro H locs ls hP hL hF
  exact lv_lload hx hb hdg (hL.get hi (fun z hz => by cases hz)) (k H locs ls hP hL hF)
theorem am_v_aload_n (X : am_Cx D p s m args meth c M) {k0 : Fin 4} {x : Nat} (hi : L[k0.val]? = some (.ref x)) (hdg : decode M.2.2.1 pc = .ok (.aload_n k0, 1)) (k : am_V p l e R s m args below meth c Q D B M cells slots (pc + 1) L (.ref x :: S) h) : am_V p l e R s m args below meth c Q D B M cells slots pc L S h := by
  obtain ⟨hx, hb, hml, hr, hlk, hown, hts, hK, hnm, hM⟩ := X
  intro H locs ls hP hL hF
  exact lv_aload_n hx hb hdg rfl (hL.get hi (fun z hz => by cases hz)) (k H locs ls hP hL hF)
theorem am_v_aload_nN (X : am_Cx D p s m args meth c M) {k0 : Fin 4} (hi : L[k0.val]? = some .null) (hdg : decode M.2.2.1 pc = .ok (.aload_n k0, 1)) (k : am_V p l e R s m args below meth c Q D B M cells slots (pc + 1) L (.null :: S) h) : am_V p l e R s m args below meth c Q D B M cells slots pc L S h := by
  obtain ⟨hx, hb, hml, hr, hlk, hown, hts, hK, hnm, hM⟩ := X
  intro H locs ls hP hL hF
  exact lv_aload_nN hx hb hdg rfl (hL.get hi (fun z hz => by cases hz)) (k H locs ls hP hL hF)
theorem am_v_aload (X : am_Cx D p s m args meth c M) {i : Nat} {x : Nat} (hi : L[i]? = some (.ref x)) (hdg : decode M.2.2.1 pc = .ok (.aload i, 2)) (k : am_V p l e R s m args below meth c Q D B M cells slots (pc + 2) L (.ref x :: S) h) : am_V p l e R s m args below meth c Q D B M cells slots pc L S h := by
  obtain ⟨hx, hb, hml, hr, hlk, hown, hts, hK, hnm, hM⟩ := X
  intro H locs ls hP hL hF
  exact lv_aload hx hb hdg (hL.get hi (fun z hz => by cases hz)) (k H locs ls hP hL hF)
theorem am_v_aloadN (X : am_Cx D p s m args meth c M) {i : Nat} (hi : L[i]? = some .null) (hdg : decode M.2.2.1 pc = .ok (.aload i, 2)) (k : am_V p l e R s m args below meth c Q D B M cells slots (pc + 2) L (.null :: S) h) : am_V p l e R s m args below meth c Q D B M cells slots pc L S h := by
  obtain ⟨hx, hb, hml, hr, hlk, hown, hts, hK, hnm, hM⟩ := X
  intro H locs ls hP hL hF
  exact lv_aloadN hx hb hdg (hL.get hi (fun z hz => by cases hz)) (k H locs ls hP hL hF)
theorem am_v_istore_n (X : am_Cx D p s m args meth c M) {k0 : Fin 4} {x : Int32} (hi : k0.val < L.length) (hdg : decode M.2.2.1 pc = .ok (.istore_n k0, 1)) (k : am_V p l e R s m args below meth c Q D B M cells slots (pc + 1) (am_st1 L k0.val (.int x)) S h) : am_V p l e R s m args below meth c Q D B M cells slots pc L (.int x :: S) h := by
  obtain ⟨hx, hb, hml, hr, hlk, hown, hts, hK, hnm, hM⟩ := X
  intro H locs ls hP hL hF
  exact lv_istore_n hx hb hdg rfl hL.has (hL.2.2.1 ▸ hi) rfl (fun ls' hl => k H locs ls' hP (am_st1_lv hL.2.2.1 hl) hF)
theorem am_v_istore (X : am_Cx D p s m args meth c M) {i : Nat} {x : Int32} (hi : i < L.length) (hdg : decode M.2.2.1 pc = .ok (.istore i, 2)) (k : am_V p l e R s m args below meth c Q D B M cells slots (pc + 2) (am_st1 L i (.int x)) S h) : am_V p l e R s m args below meth c Q D B M cells slots pc L (.int x :: S) h := by
  obtain ⟨hx, hb, hml, hr, hlk, hown, hts, hK, hnm, hM⟩ := X
  intro H locs ls hP hL hF
  exact lv_istore hx hb hdg hL.has (hL.2.2.1 ▸ hi) rfl (fun ls' hl => k H locs ls' hP (am_st1_lv hL.2.2.1 hl) hF)
theorem am_v_lstore_n (X : am_Cx D p s m args meth c M) {k0 : Fin 4} {x : Int64} (hi : k0.val + 1 < L.length) (hdg : decode M.2.2.1 pc = .ok (.lstore_n k0, 1)) (k : am_V p l e R s m args below meth c Q D B M cells slots (pc + 1) (am_st2 L k0.val (.long x)) S h) : am_V p l e R s m args below meth c Q D B M cells slots pc L (.long x :: S) h := by
  obtain ⟨hx, hb, hml, hr, hlk, hown, hts, hK, hnm, hM⟩ := X
  intro H locs ls hP hL hF
  exact lv_lstore_n hx hb hdg rfl hL.has (hL.2.2.1 ▸ hi) rfl (fun ls' hl => k H locs ls' hP (am_st2_lv hL.2.2.1 hl) hF)
theorem am_v_lstore (X : am_Cx D p s m args meth c M) {i : Nat} {x : Int64} (hi : i + 1 < L.length) (hdg : decode M.2.2.1 pc = .ok (.lstore i, 2)) (k : am_V p l e R s m args below meth c Q D B M cells slots (pc + 2) (am_st2 L i (.long x)) S h) : am_V p l e R s m args below meth c Q D B M cells slots pc L (.long x :: S) h := by
  obtain ⟨hx, hb, hml, hr, hlk, hown, hts, hK, hnm, hM⟩ := X
  intro H locs ls hP hL hF
  exact lv_lstore hx hb hdg hL.has (hL.2.2.1 ▸ hi) rfl (fun ls' hl => k H locs ls' hP (am_st2_lv hL.2.2.1 hl) hF)
theorem am_v_astore_n (X : am_Cx D p s m args meth c M) {k0 : Fin 4} {x : Nat} (hi : k0.val < L.length) (hdg : decode M.2.2.1 pc = .ok (.astore_n k0, 1)) (k : am_V p l e R s m args below meth c Q D B M cells slots (pc + 1) (am_st1 L k0.val (.ref x)) S h) : am_V p l e R s m args below meth c Q D B M cells slots pc L (.ref x :: S) h := by
  obtain ⟨hx, hb, hml, hr, hlk, hown, hts, hK, hnm, hM⟩ := X
  intro H locs ls hP hL hF
  exact lv_astore_n hx hb hdg rfl hL.has (hL.2.2.1 ▸ hi) rfl (fun ls' hl => k H locs ls' hP (am_st1_lv hL.2.2.1 hl) hF)
theorem am_v_astore_nN (X : am_Cx D p s m args meth c M) {k0 : Fin 4} (hi : k0.val < L.length) (hdg : decode M.2.2.1 pc = .ok (.astore_n k0, 1)) (k : am_V p l e R s m args below meth c Q D B M cells slots (pc + 1) (am_st1 L k0.val .null) S h) : am_V p l e R s m args below meth c Q D B M cells slots pc L (.null :: S) h := by
  obtain ⟨hx, hb, hml, hr, hlk, hown, hts, hK, hnm, hM⟩ := X
  intro H locs ls hP hL hF
  exact lv_astore_nN hx hb hdg rfl hL.has (hL.2.2.1 ▸ hi) rfl (fun ls' hl => k H locs ls' hP (am_st1_lv hL.2.2.1 hl) hF)
theorem am_v_astore (X : am_Cx D p s m args meth c M) {i : Nat} {x : Nat} (hi : i < L.length) (hdg : decode M.2.2.1 pc = .ok (.astore i, 2)) (k : am_V p l e R s m args below meth c Q D B M cells slots (pc + 2) (am_st1 L i (.ref x)) S h) : am_V p l e R s m args below meth c Q D B M cells slots pc L (.ref x :: S) h := by
  obtain ⟨hx, hb, hml, hr, hlk, hown, hts, hK, hnm, hM⟩ := X
  intro H locs ls hP hL hF
  exact lv_astore hx hb hdg hL.has (hL.2.2.1 ▸ hi) rfl (fun ls' hl => k H locs ls' hP (am_st1_lv hL.2.2.1 hl) hF)
theorem am_v_astoreN (X : am_Cx D p s m args meth c M) {i : Nat} (hi : i < L.length) (hdg : decode M.2.2.1 pc = .ok (.astore i, 2)) (k : am_V p l e R s m args below meth c Q D B M cells slots (pc + 2) (am_st1 L i .null) S h) : am_V p l e R s m args below meth c Q D B M cells slots pc L (.null :: S) h := by
  obtain ⟨hx, hb, hml, hr, hlk, hown, hts, hK, hnm, hM⟩ := X
  intro H locs ls hP hL hF
  exact lv_astoreN hx hb hdg hL.has (hL.2.2.1 ▸ hi) rfl (fun ls' hl => k H locs ls' hP (am_st1_lv hL.2.2.1 hl) hF)
theorem am_v_iinc (X : am_Cx D p s m args meth c M) {i : Nat} {n : Int} {x : Int32} (hi : L[i]? = some (.int x)) (hdg : decode M.2.2.1 pc = .ok (.iinc i n, 3)) (k : am_V p l e R s m args below meth c Q D B M cells slots (pc + 3) (am_st1 L i (.int (x + Int32.ofInt n))) S h) : am_V p l e R s m args below meth c Q D B M cells slots pc L S h := by
  obtain ⟨hx, hb, hml, hr, hlk, hown, hts, hK, hnm, hM⟩ := X
  have hlt : i < L.length := (List.getElem?_eq_some_iff.mp hi).1
  intro H locs ls hP hL hF
  
  obtain ⟨j, hj⟩ := List.getElem?_of_mem (am_ps_of hi (fun z hz => by cases hz))
  exact lv_iinc hx hb hdg hL.has hj rfl (hL.2.2.1 ▸ hlt) rfl (fun ls' hl => k H locs ls' hP (am_st1_lv hL.2.2.1 hl) hF)
theorem am_v_if_eq (X : am_Cx D p s m args meth c M) {x : Int32} {off : Int} (ht : am_tok pc off = true) (hdg : decode M.2.2.1 pc = .ok (.ifCond .eq off, 3)) (kt : x = 0 → am_V p l e R s m args below meth c Q D B M cells slots (am_tg pc off) L S h) (kf : ¬ x = 0 → am_V p l e R s m args below meth c Q D B M cells slots (pc + 3) L S h) : am_V p l e R s m args below meth c Q D B M cells slots pc L (.int x :: S) h := by
  obtain ⟨hx, hb, hml, hr, hlk, hown, hts, hK, hnm, hM⟩ := X
  intro H locs ls hP hL hF
  exact lv_if_eq hx hb hdg (am_tg_eq ht) (fun q => kt q H locs ls hP hL hF) (fun q => kf q H locs ls hP hL hF)
theorem am_v_icmp_eq (X : am_Cx D p s m args meth c M) {x y : Int32} {off : Int} (ht : am_tok pc off = true) (hdg : decode M.2.2.1 pc = .ok (.if_icmp .eq off, 3)) (kt : x = y → am_V p l e R s m args below meth c Q D B M cells slots (am_tg pc off) L S h) (kf : ¬ x = y → am_V p l e R s m args below meth c Q D B M cells slots (pc + 3) L S h) : am_V p l e R s m args below meth c Q D B M cells slots pc L (.int y :: .int x :: S) h := by
  obtain ⟨hx, hb, hml, hr, hlk, hown, hts, hK, hnm, hM⟩ := X
  intro H locs ls hP hL hF
  exact lv_icmp_eq hx hb hdg (am_tg_eq ht) (fun q => kt q H locs ls hP hL hF) (fun q => kf q H locs ls hP hL hF)
theorem am_v_if_ne (X : am_Cx D p s m args meth c M) {x : Int32} {off : Int} (ht : am_tok pc off = true) (hdg : decode M.2.2.1 pc = .ok (.ifCond .ne off, 3)) (kt : ¬ x = 0 → am_V p l e R s m args below meth c Q D B M cells slots (am_tg pc off) L S h) (kf : x = 0 → am_V p l e R s m args below meth c Q D B M cells slots (pc + 3) L S h) : am_V p l e R s m args below meth c Q D B M cells slots pc L (.int x :: S) h := by
  obtain ⟨hx, hb, hml, hr, hlk, hown, hts, hK, hnm, hM⟩ := X
  intro H locs ls hP hL hF
  exact lv_if_ne hx hb hdg (am_tg_eq ht) (fun q => kt q H locs ls hP hL hF) (fun q => kf q H locs ls hP hL hF)
theorem am_v_icmp_ne (X : am_Cx D p s m args meth c M) {x y : Int32} {off : Int} (ht : am_tok pc off = true) (hdg : decode M.2.2.1 pc = .ok (.if_icmp .ne off, 3)) (kt : ¬ x = y → am_V p l e R s m args below meth c Q D B M cells slots (am_tg pc off) L S h) (kf : x = y → am_V p l e R s m args below meth c Q D B M cells slots (pc + 3) L S h) : am_V p l e R s m args below meth c Q D B M cells slots pc L (.int y :: .int x :: S) h := by
  obtain ⟨hx, hb, hml, hr, hlk, hown, hts, hK, hnm, hM⟩ := X
  intro H locs ls hP hL hF
  exact lv_icmp_ne hx hb hdg (am_tg_eq ht) (fun q => kt q H locs ls hP hL hF) (fun q => kf q H locs ls hP hL hF)
theorem am_v_if_lt (X : am_Cx D p s m args meth c M) {x : Int32} {off : Int} (ht : am_tok pc off = true) (hdg : decode M.2.2.1 pc = .ok (.ifCond .lt off, 3)) (kt : x < 0 → am_V p l e R s m args below meth c Q D B M cells slots (am_tg pc off) L S h) (kf : ¬ x < 0 → am_V p l e R s m args below meth c Q D B M cells slots (pc + 3) L S h) : am_V p l e R s m args below meth c Q D B M cells slots pc L (.int x :: S) h := by
  obtain ⟨hx, hb, hml, hr, hlk, hown, hts, hK, hnm, hM⟩ := X
  intro H locs ls hP hL hF
  exact lv_if_lt hx hb hdg (am_tg_eq ht) (fun q => kt q H locs ls hP hL hF) (fun q => kf q H locs ls hP hL hF)
theorem am_v_icmp_lt (X : am_Cx D p s m args meth c M) {x y : Int32} {off : Int} (ht : am_tok pc off = true) (hdg : decode M.2.2.1 pc = .ok (.if_icmp .lt off, 3)) (kt : x < y → am_V p l e R s m args below meth c Q D B M cells slots (am_tg pc off) L S h) (kf : ¬ x < y → am_V p l e R s m args below meth c Q D B M cells slots (pc + 3) L S h) : am_V p l e R s m args below meth c Q D B M cells slots pc L (.int y :: .int x :: S) h := by
  obtain ⟨hx, hb, hml, hr, hlk, hown, hts, hK, hnm, hM⟩ := X
  intro H locs ls hP hL hF
  exact lv_icmp_lt hx hb hdg (am_tg_eq ht) (fun q => kt q H locs ls hP hL hF) (fun q => kf q H locs ls hP hL hF)
theorem am_v_if_ge (X : am_Cx D p s m args meth c M) {x : Int32} {off : Int} (ht : am_tok pc off = true) (hdg : decode M.2.2.1 pc = .ok (.ifCond .ge off, 3)) (kt : 0 ≤ x → am_V p l e R s m args below meth c Q D B M cells slots (am_tg pc off) L S h) (kf : ¬ 0 ≤ x → am_V p l e R s m args below meth c Q D B M cells slots (pc + 3) L S h) : am_V p l e R s m args below meth c Q D B M cells slots pc L (.int x :: S) h := by
  obtain ⟨hx, hb, hml, hr, hlk, hown, hts, hK, hnm, hM⟩ := X
  intro H locs ls hP hL hF
  exact lv_if_ge hx hb hdg (am_tg_eq ht) (fun q => kt q H locs ls hP hL hF) (fun q => kf q H locs ls hP hL hF)
theorem am_v_icmp_ge (X : am_Cx D p s m args meth c M) {x y : Int32} {off : Int} (ht : am_tok pc off = true) (hdg : decode M.2.2.1 pc = .ok (.if_icmp .ge off, 3)) (kt : y ≤ x → am_V p l e R s m args below meth c Q D B M cells slots (am_tg pc off) L S h) (kf : ¬ y ≤ x → am_V p l e R s m args below meth c Q D B M cells slots (pc + 3) L S h) : am_V p l e R s m args below meth c Q D B M cells slots pc L (.int y :: .int x :: S) h := by
  obtain ⟨hx, hb, hml, hr, hlk, hown, hts, hK, hnm, hM⟩ := X
  intro H locs ls hP hL hF
  exact lv_icmp_ge hx hb hdg (am_tg_eq ht) (fun q => kt q H locs ls hP hL hF) (fun q => kf q H locs ls hP hL hF)
theorem am_v_if_gt (X : am_Cx D p s m args meth c M) {x : Int32} {off : Int} (ht : am_tok pc off = true) (hdg : decode M.2.2.1 pc = .ok (.ifCond .gt off, 3)) (kt : 0 < x → am_V p l e R s m args below meth c Q D B M cells slots (am_tg pc off) L S h) (kf : ¬ 0 < x → am_V p l e R s m args below meth c Q D B M cells slots (pc + 3) L S h) : am_V p l e R s m args below meth c Q D B M cells slots pc L (.int x :: S) h := by
  obtain ⟨hx, hb, hml, hr, hlk, hown, hts, hK, hnm, hM⟩ := X
  intro H locs ls hP hL hF
  exact lv_if_gt hx hb hdg (am_tg_eq ht) (fun q => kt q H locs ls hP hL hF) (fun q => kf q H locs ls hP hL hF)
theorem am_v_icmp_gt (X : am_Cx D p s m args meth c M) {x y : Int32} {off : Int} (ht : am_tok pc off = true) (hdg : decode M.2.2.1 pc = .ok (.if_icmp .gt off, 3)) (kt : y < x → am_V p l e R s m args below meth c Q D B M cells slots (am_tg pc off) L S h) (kf : ¬ y < x → am_V p l e R s m args below meth c Q D B M cells slots (pc + 3) L S h) : am_V p l e R s m args below meth c Q D B M cells slots pc L (.int y :: .int x :: S) h := by
  obtain ⟨hx, hb, hml, hr, hlk, hown, hts, hK, hnm, hM⟩ := X
  intro H locs ls hP hL hF
  exact lv_icmp_gt hx hb hdg (am_tg_eq ht) (fun q => kt q H locs ls hP hL hF) (fun q => kf q H locs ls hP hL hF)
theorem am_v_if_le (X : am_Cx D p s m args meth c M) {x : Int32} {off : Int} (ht : am_tok pc off = true) (hdg : decode M.2.2.1 pc = .ok (.ifCond .le off, 3)) (kt : x ≤ 0 → am_V p l e R s m args below meth c Q D B M cells slots (am_tg pc off) L S h) (kf : ¬ x ≤ 0 → am_V p l e R s m args below meth c Q D B M cells slots (pc + 3) L S h) : am_V p l e R s m args below meth c Q D B M cells slots pc L (.int x :: S) h := by
  obtain ⟨hx, hb, hml, hr, hlk, hown, hts, hK, hnm, hM⟩ := X
  intro H locs ls hP hL hF
  exact lv_if_le hx hb hdg (am_tg_eq ht) (fun q => kt q H locs ls hP hL hF) (fun q => kf q H locs ls hP hL hF)
theorem am_v_icmp_le (X : am_Cx D p s m args meth c M) {x y : Int32} {off : Int} (ht : am_tok pc off = true) (hdg : decode M.2.2.1 pc = .ok (.if_icmp .le off, 3)) (kt : x ≤ y → am_V p l e R s m args below meth c Q D B M cells slots (am_tg pc off) L S h) (kf : ¬ x ≤ y → am_V p l e R s m args below meth c Q D B M cells slots (pc + 3) L S h) : am_V p l e R s m args below meth c Q D B M cells slots pc L (.int y :: .int x :: S) h := by
  obtain ⟨hx, hb, hml, hr, hlk, hown, hts, hK, hnm, hM⟩ := X
  intro H locs ls hP hL hF
  exact lv_icmp_le hx hb hdg (am_tg_eq ht) (fun q => kt q H locs ls hP hL hF) (fun q => kf q H locs ls hP hL hF)
theorem am_v_goto (X : am_Cx D p s m args meth c M) {off : Int} (ht : am_tok pc off = true) (hdg : decode M.2.2.1 pc = .ok (.goto off, 3)) (k : am_V p l e R s m args below meth c Q D B M cells slots (am_tg pc off) L S h) : am_V p l e R s m args below meth c Q D B M cells slots pc L S h := by
  obtain ⟨hx, hb, hml, hr, hlk, hown, hts, hK, hnm, hM⟩ := X
  intro H locs ls hP hL hF
  exact lv_goto hx hb hdg (am_tg_eq ht) (k H locs ls hP hL hF)
theorem am_v_ifnull (X : am_Cx D p s m args meth c M) {x : Nat} {off : Int} (hdg : decode M.2.2.1 pc = .ok (.ifnull off, 3)) (k : am_V p l e R s m args below meth c Q D B M cells slots (pc + 3) L S h) : am_V p l e R s m args below meth c Q D B M cells slots pc L (.ref x :: S) h := by
  obtain ⟨hx, hb, hml, hr, hlk, hown, hts, hK, hnm, hM⟩ := X
  intro H locs ls hP hL hF
  exact lv_ifnull hx hb hdg (k H locs ls hP hL hF)
theorem am_v_ifnullN (X : am_Cx D p s m args meth c M) {off : Int} (ht : am_tok pc off = true) (hdg : decode M.2.2.1 pc = .ok (.ifnull off, 3)) (k : am_V p l e R s m args below meth c Q D B M cells slots (am_tg pc off) L S h) : am_V p l e R s m args below meth c Q D B M cells slots pc L (.null :: S) h := by
  obtain ⟨hx, hb, hml, hr, hlk, hown, hts, hK, hnm, hM⟩ := X
  intro H locs ls hP hL hF
  exact lv_ifnullN hx hb hdg (am_tg_eq ht) (k H locs ls hP hL hF)
theorem am_v_ifnonnull (X : am_Cx D p s m args meth c M) {x : Nat} {off : Int} (ht : am_tok pc off = true) (hdg : decode M.2.2.1 pc = .ok (.ifnonnull off, 3)) (k : am_V p l e R s m args below meth c Q D B M cells slots (am_tg pc off) L S h) : am_V p l e R s m args below meth c Q D B M cells slots pc L (.ref x :: S) h := by
  obtain ⟨hx, hb, hml, hr, hlk, hown, hts, hK, hnm, hM⟩ := X
  intro H locs ls hP hL hF
  exact lv_ifnonnull hx hb hdg (am_tg_eq ht) (k H locs ls hP hL hF)
theorem am_v_ifnonnullN (X : am_Cx D p s m args meth c M) {off : Int} (hdg : decode M.2.2.1 pc = .ok (.ifnonnull off, 3)) (k : am_V p l e R s m args below meth c Q D B M cells slots (pc + 3) L S h) : am_V p l e R s m args below meth c Q D B M cells slots pc L (.null :: S) h := by
  obtain ⟨hx, hb, hml, hr, hlk, hown, hts, hK, hnm, hM⟩ := X
  intro H locs ls hP hL hF
  exact lv_ifnonnullN hx hb hdg (k H locs ls hP hL hF)
theorem am_v_tableOut (X : am_Cx D p s m args meth c M) {dflt lo hi : Int} {offs : Array Int} {len : Nat} {x : Int32} (ht : am_tok pc dflt = true) (hdg : decode M.2.2.1 pc = .ok (.tableswitch dflt lo hi offs, len)) (ho : x.toInt < lo ∨ hi < x.toInt) (k : am_V p l e R s m args below meth c Q D B M cells slots (am_tg pc dflt) L S h) : am_V p l e R s m args below meth c Q D B M cells slots pc L (.int x :: S) h := by
  obtain ⟨hx, hb, hml, hr, hlk, hown, hts, hK, hnm, hM⟩ := X
  intro H locs ls hP hL hF
  exact lv_tableOut hx hb hdg ho (am_tg_eq ht) (k H locs ls hP hL hF)
theorem am_v_tableIn (X : am_Cx D p s m args meth c M) {dflt lo hi off : Int} {offs : Array Int} {len : Nat} {x : Int32} (ht : am_tok pc off = true) (hdg : decode M.2.2.1 pc = .ok (.tableswitch dflt lo hi offs, len)) (ho : ¬ (x.toInt < lo ∨ hi < x.toInt)) (hf : offs[(x.toInt - lo).toNat]? = some off) (k : am_V p l e R s m args below meth c Q D B M cells slots (am_tg pc off) L S h) : am_V p l e R s m args below meth c Q D B M cells slots pc L (.int x :: S) h := by
  obtain ⟨hx, hb, hml, hr, hlk, hown, hts, hK, hnm, hM⟩ := X
  intro H locs ls hP hL hF
  exact lv_tableIn hx hb hdg (fun q => ho (Or.inl q)) (fun q => ho (Or.inr q)) hf (am_tg_eq ht) (k H locs ls hP hL hF)
theorem am_v_lookup (X : am_Cx D p s m args meth c M) {dflt : Int} {ps : Array (Int × Int)} {len : Nat} {x : Int32} (hdg : decode M.2.2.1 pc = .ok (.lookupswitch dflt ps, len)) (hp : (ps.toList.zip (ps.toList.drop 1)).all (fun (a, next) => a.1 < next.1) = true) (ht : am_tok pc (Op.lookupswitch.offset ps.toList dflt x.toInt) = true) (k : am_V p l e R s m args below meth c Q D B M cells slots (am_tg pc (Op.lookupswitch.offset ps.toList dflt x.toInt)) L S h) : am_V p l e R s m args below meth c Q D B M cells slots pc L (.int x :: S) h := by
  obtain ⟨hx, hb, hml, hr, hlk, hown, hts, hK, hnm, hM⟩ := X
  intro H locs ls hP hL hF
  exact lv_lookup hx hb hdg hp rfl (am_tg_eq ht) (k H locs ls hP hL hF)
theorem am_v_getf (X : am_Cx D p s m args meth c M) {i a t k0 : Nat} {fs : List Value} {ts : List Nat} {v : Value} (ha : h.1 a = some (t, fs)) (hf : am_fld M.1 i = some (k0, ts)) (hv0 : fs[k0]? = some v) (ht : ts.contains t = true) (hdg : decode M.2.2.1 pc = .ok (.getfield i, 3)) (k : am_V p l e R s m args below meth c Q D B M cells slots (pc + 3) L (v :: S) h) : am_V p l e R s m args below meth c Q D B M cells slots pc L (.ref a :: S) h := by
  obtain ⟨hx, hb, hml, hr, hlk, hown, hts, hK, hnm, hM⟩ := X
  unfold am_fld at hf
  rw [Option.map_eq_some_iff] at hf
  obtain ⟨q, hq, hv⟩ := hf
  have hi : q.1 = i := by simpa using List.find?_some hq
  have hck := List.all_eq_true.mp (am_fck_ok M.1 hM) q (List.mem_of_find?_eq_some hq)
  cases hv
  subst hi
  unfold am_fck at hck
  have hck := List.all_eq_true.mp hck t (List.contains_iff_mem.mp ht)
  split at hck
  rotate_left
  · cases hck
  rename_i r hr2
  rw [Bool.and_eq_true, Bool.and_eq_true] at hck
  obtain ⟨hkN, hlink, hsame⟩ := hck
  have hkN := of_decide_eq_true hkN
  have hlink := hts _ (am_w_in hlink)
  have hsame : ∀ z, s.fieldFound? (r.2.1 q.2.1).1 (r.2.1 q.2.1).2.1 (r.2.1 q.2.1).2.2.1 = some z → s.fieldFound? q.2.2.2.1 (r.2.1 q.2.1).2.1 (r.2.1 q.2.1).2.2.1 = some z := by
    rw [Bool.or_eq_true] at hsame
    rcases hsame with q1 | q1
    · rw [of_decide_eq_true q1]; exact fun z hz => hz
    · exact u_same (hts _ (am_w_in q1))
  obtain ⟨hin, hty, hnmm, hN⟩ := am_cls_ok t r hr2
  intro H locs ls hP hL hF
  
  rcases hP.2.2 a t fs ha with ⟨r', g1, g2, cell, q1, q2, q3, q4⟩ | ⟨g1, -⟩
  rotate_left
  · exact absurd (am_lt13 hr2) (by omega)
  have hrr : r' = r := Option.some.inj (g1.symm.trans hr2)
  subst hrr
  obtain ⟨hS, hfc, kC, hkC, hkind⟩ := hK.1 t _ hr2
  obtain ⟨cf, kf, fi, f, hi, hsl⟩ := hS _ hkN
  
  refine W.getf hx hb hown hlink (hsame _ hi) (u_facts hfc hkC (u_lays hts hin hkN) hi).1 q1 (by rw [q3]; exact fun z => by cases z) (v := v) ?_ rfl rfl hdg (k H locs ls hP hL hF)
  rw [hsl, q4 _ hkN, am_vV hv0]
theorem am_v_putf (X : am_Cx D p s m args meth c M) {i a t k0 : Nat} {fs : List Value} {ts : List Nat} {v : Value} (ha : h.1 a = some (t, fs)) (hf : am_fld M.1 i = some (k0, ts)) (ht : ts.contains t = true) (hpf : am_pf M t k0 = true) (hnr : narrow (am_ty t k0) v = v) (hfit : fits (am_ty t k0) v = true) (hBa : B ≤ a) (hdg : decode M.2.2.1 pc = .ok (.putfield i, 3)) (k : am_V p l e R s m args below meth c Q D B M cells slots (pc + 3) L S (am_put h a (t, fs.set k0 v))) : am_V p l e R s m args below meth c Q D B M cells slots pc L (v :: .ref a :: S) h := by
  obtain ⟨hx, hb, hml, hr, hlk, hown, hts, hK, hnm, hM⟩ := X
  unfold am_fld at hf
  rw [Option.map_eq_some_iff] at hf
  obtain ⟨q, hq, hv⟩ := hf
  have hi : q.1 = i := by simpa using List.find?_some hq
  have hck := List.all_eq_true.mp (am_fck_ok M.1 hM) q (List.mem_of_find?_eq_some hq)
  cases hv
  subst hi
  unfold am_fck at hck
  have hck := List.all_eq_true.mp hck t (List.contains_iff_mem.mp ht)
  split at hck
  rotate_left
  · cases hck
  rename_i r hr2
  rw [Bool.and_eq_true, Bool.and_eq_true] at hck
  obtain ⟨hkN, hlink, hsame⟩ := hck
  have hkN := of_decide_eq_true hkN
  have hlink := hts _ (am_w_in hlink)
  have hsame : ∀ z, s.fieldFound? (r.2.1 q.2.1).1 (r.2.1 q.2.1).2.1 (r.2.1 q.2.1).2.2.1 = some z → s.fieldFound? q.2.2.2.1 (r.2.1 q.2.1).2.1 (r.2.1 q.2.1).2.2.1 = some z := by
    rw [Bool.or_eq_true] at hsame
    rcases hsame with q1 | q1
    · rw [of_decide_eq_true q1]; exact fun z hz => hz
    · exact u_same (hts _ (am_w_in q1))
  obtain ⟨hin, hty, hnmm, hN⟩ := am_cls_ok t r hr2
  intro H locs ls hP hL hF
  
  rcases hP.2.2 a t fs ha with ⟨r', g1, g2, cell, q1, q2, q3, q4⟩ | ⟨g1, -⟩
  rotate_left
  · exact absurd (am_lt13 hr2) (by omega)
  have hrr : r' = r := Option.some.inj (g1.symm.trans hr2)
  subst hrr
  obtain ⟨hS, hfc, kC, hkC, hkind⟩ := hK.1 t _ hr2
  obtain ⟨cf, kf, fi, f, hi, hsl⟩ := hS _ hkN
  
  have hap : ∀ x y, x < r'.2.2 → y < r'.2.2 → x ≠ y → (D.2.1 t) x ≠ (D.2.1 t) y := by
    intro x y hx1 hy1 hne
    obtain ⟨_, _, _, fa, hia, ea⟩ := hS x hx1
    obtain ⟨_, _, _, fb, hib, eb⟩ := hS y hy1
    rw [← ea, ← eb]
    refine u_apart (u_lays hts hin hx1) (u_lays hts hin hy1) hia hib ?_
    rw [(State.fieldFound?_type hia (hty x hx1)).1, (State.fieldFound?_type hib (hty y hy1)).1]
    exact hnmm x hx1 y hy1 hne
  have hst := (u_facts hfc hkC (u_lays hts hin hkN) hi).1
  have hkl : q.2.1 < fs.length := by rw [g2]; exact hkN
  have done : ∀ H' : Heap, H'[a]? = some (cell.setSlot f.slot v) → H'.size = H.size → (∀ z, z ≠ a → H'[z]? = H[z]?) → W p l e R s m args below meth c H' (locs ++ [⟨a, f.slot⟩]) cells slots Q (F0 m (pc + 3) ls S) := by
    intro H' e1 e2 e3
    rw [hsl] at e1
    refine k H' _ ls (hP.put e2 e3 (Or.inl ⟨_, hr2, by rw [List.length_set]; exact g2, t_OB.to (V := updV (vp_V fs) q.2.1 v) ⟨_, e1, q2, q3, t_set q4 hap hkN v⟩ (fun j _ => vp_updV_set hkl v j)⟩)) hL (fun z hz => ?_)
    rcases List.mem_append.mp hz with z1 | z1
    · exact hF z z1
    · rw [List.mem_singleton.mp z1]; exact hBa
  have hlay := hts _ (hin _ (u_in_lay hkN))
  unfold u_lay at hlay
  unfold am_pf at hpf
  rw [hr2] at hpf
  by_cases hfin : (r'.2.1 q.2.1).2.2.2 = true
  · rw [if_pos hfin] at hlay
    have hpf : (decide (M.2.1.name = "<init>") && decide ((r'.2.1 q.2.1).1 = am_R M.1)) = true := by simpa [hfin] using hpf
    rw [Bool.and_eq_true] at hpf
    have hcf : m.cls = cf := by
      obtain ⟨_, _, c', _, _, _, -, -, hf', -, -, -, hown2, -⟩ := Cond.laysFinal_spec hlay
      have e1 : c' = cf := by have := hi.symm.trans hf'; simp at this; exact this.1.symm
      rw [of_decide_eq_true hpf.2] at hown2
      rw [← e1]; exact Option.some.inj (hown.symm.trans hown2)
    have h6 := u_fits hfc hkC hkind (Or.inr hlay) hi (hty _ hkN) hnr hfit
    exact W.putFinK hx hb hown hlink (hsame _ hi) hst hcf (hnm.trans (of_decide_eq_true hpf.1)) (by rw [q2]; exact h6) q1 q3 (by rw [hsl]; exact k2_hasslot (q4 _ hkN)) rfl rfl hdg done
  · rw [if_neg hfin] at hlay
    have h6 := u_store hfc hkC hkind hlay hi (hty _ hkN) hnr hfit
    exact W.putK hx hb (f := f) ⟨hown, hlink, ⟨_, _, _, hsame _ hi⟩, hst⟩ (by rw [q2]; exact h6) q1 q3 (by rw [hsl]; exact k2_hasslot (q4 _ hkN)) rfl rfl hdg done
theorem am_v_iald (X : am_Cx D p s m args meth c M) {a t : Nat} {fs : List Value} {j : Int32} {v : Value} (ha : h.1 a = some (t, fs)) (hv0 : fs[j.toNatClampNeg]? = some v) (ht : 20 ≤ t ∧ t < 21) (hj : ¬ j < 0) (hdg : decode M.2.2.1 pc = .ok (.iaload, 1)) (k : am_V p l e R s m args below meth c Q D B M cells slots (pc + 1) L (v :: S) h) : am_V p l e R s m args below meth c Q D B M cells slots pc L (.int j :: .ref a :: S) h := by
  obtain ⟨hx, hb, hml, hr, hlk, hown, hts, hK, hnm, hM⟩ := X
  intro H locs ls hP hL hF
  
  rcases hP.2.2 a t fs ha with ⟨r', g1, -⟩ | ⟨g1, g2⟩
  · exact absurd (am_lt13 g1) (by omega)
  have harr := (hK.2.1 t g1.1 g1.2).1 fs.length (vp_V fs)
  
  have hlt : j.toNatClampNeg < fs.length := (List.getElem?_eq_some_iff.mp hv0).1
  have hin : ¬ (j < 0 ∨ (arrV (D.2.2 t) fs.length (vp_V fs)).slots.size ≤ j.toNatClampNeg) := by
    rw [arrV_size]
    rintro (z | z)
    · exact hj z
    · omega
  have hv1 : (arrV (D.2.2 t) fs.length (vp_V fs)).slots[j.toNatClampNeg]? = some v := by rw [arrV_read _ _ hlt, am_vV hv0]
  
  obtain rfl : t = 20 := by omega
  rcases g2 with g2 | ⟨w1, w2, cw, w3, w4, w5, w6, w7⟩
  rotate_left
  · exact W.iald hx hb w3 ⟨w7, by rw [w4]; exact (hK.2.2.1.2.2 fs.length (vp_V fs)).2⟩ w6 (by rw [w5]; exact hin) (by rw [w5]; exact hv1) rfl rfl hdg (k H locs ls hP hL hF)
  exact W.iald hx hb g2 harr (fun z => by cases z) hin hv1 rfl rfl hdg (k H locs ls hP hL hF)
theorem am_v_lald (X : am_Cx D p s m args meth c M) {a t : Nat} {fs : List Value} {j : Int32} {v : Value} (ha : h.1 a = some (t, fs)) (hv0 : fs[j.toNatClampNeg]? = some v) (ht : 21 ≤ t ∧ t < 22) (hj : ¬ j < 0) (hdg : decode M.2.2.1 pc = .ok (.laload, 1)) (k : am_V p l e R s m args below meth c Q D B M cells slots (pc + 1) L (v :: S) h) : am_V p l e R s m args below meth c Q D B M cells slots pc L (.int j :: .ref a :: S) h := by
  obtain ⟨hx, hb, hml, hr, hlk, hown, hts, hK, hnm, hM⟩ := X
  intro H locs ls hP hL hF
  
  rcases hP.2.2 a t fs ha with ⟨r', g1, -⟩ | ⟨g1, g2⟩
  · exact absurd (am_lt13 g1) (by omega)
  rcases g2 with g2 | ⟨-, w2, -⟩
  rotate_left
  · exact absurd w2 (by omega)
  have harr := (hK.2.1 t g1.1 g1.2).1 fs.length (vp_V fs)
  
  have hlt : j.toNatClampNeg < fs.length := (List.getElem?_eq_some_iff.mp hv0).1
  have hin : ¬ (j < 0 ∨ (arrV (D.2.2 t) fs.length (vp_V fs)).slots.size ≤ j.toNatClampNeg) := by
    rw [arrV_size]
    rintro (z | z)
    · exact hj z
    · omega
  have hv1 : (arrV (D.2.2 t) fs.length (vp_V fs)).slots[j.toNatClampNeg]? = some v := by rw [arrV_read _ _ hlt, am_vV hv0]
  
  obtain rfl : t = 21 := by omega
  exact W.lald hx hb g2 harr (fun z => by cases z) hin hv1 rfl rfl hdg (k H locs ls hP hL hF)
theorem am_v_aald (X : am_Cx D p s m args meth c M) {a t : Nat} {fs : List Value} {j : Int32} {v : Value} (ha : h.1 a = some (t, fs)) (hv0 : fs[j.toNatClampNeg]? = some v) (ht : 22 ≤ t ∧ t < 26) (hj : ¬ j < 0) (hdg : decode M.2.2.1 pc = .ok (.aaload, 1)) (k : am_V p l e R s m args below meth c Q D B M cells slots (pc + 1) L (v :: S) h) : am_V p l e R s m args below meth c Q D B M cells slots pc L (.int j :: .ref a :: S) h := by
  obtain ⟨hx, hb, hml, hr, hlk, hown, hts, hK, hnm, hM⟩ := X
  intro H locs ls hP hL hF
  
  rcases hP.2.2 a t fs ha with ⟨r', g1, -⟩ | ⟨g1, g2⟩
  · exact absurd (am_lt13 g1) (by omega)
  rcases g2 with g2 | ⟨-, w2, -⟩
  rotate_left
  · exact absurd w2 (by omega)
  have harr := (hK.2.1 t g1.1 g1.2).1 fs.length (vp_V fs)
  
  have hlt : j.toNatClampNeg < fs.length := (List.getElem?_eq_some_iff.mp hv0).1
  have hin : ¬ (j < 0 ∨ (arrV (D.2.2 t) fs.length (vp_V fs)).slots.size ≤ j.toNatClampNeg) := by
    rw [arrV_size]
    rintro (z | z)
    · exact hj z
    · omega
  have hv1 : (arrV (D.2.2 t) fs.length (vp_V fs)).slots[j.toNatClampNeg]? = some v := by rw [arrV_read _ _ hlt, am_vV hv0]
  
  have hrf : (am_aty t).isReference = true := by
    rcases (show t = 22 ∨ t = 23 ∨ t = 24 ∨ t = 25 by omega) with rfl | rfl | rfl | rfl <;> rfl
  exact W.aald hx hb g2 harr hrf (fun z => by cases z) hin hv1 rfl rfl hdg (k H locs ls hP hL hF)
theorem am_v_iast (X : am_Cx D p s m args meth c M) {a t : Nat} {fs : List Value} {j : Int32} {x : Int32} (ha : h.1 a = some (t, fs)) (ht : t = 20) (hj : ¬ j < 0) (hlt : j.toNatClampNeg < fs.length) (hBa : B ≤ a) (hdg : decode M.2.2.1 pc = .ok (.iastore, 1)) (k : am_V p l e R s m args below meth c Q D B M cells slots (pc + 1) L S (am_put h a (t, fs.set j.toNatClampNeg (.int x)))) : am_V p l e R s m args below meth c Q D B M cells slots pc L ((.int x) :: .int j :: .ref a :: S) h := by
  obtain ⟨hx, hb, hml, hr, hlk, hown, hts, hK, hnm, hM⟩ := X
  intro H locs ls hP hL hF
  
  rcases hP.2.2 a t fs ha with ⟨r', g1, -⟩ | ⟨g1, g2⟩
  · exact absurd (am_lt13 g1) (by omega)
  rcases g2 with g2 | ⟨w1, -⟩
  rotate_left
  · exact absurd w1 (by omega)
  have harr := (hK.2.1 t g1.1 g1.2).1 fs.length (vp_V fs)
  
  have hin : ¬ (j < 0 ∨ (arrV (D.2.2 t) fs.length (vp_V fs)).slots.size ≤ j.toNatClampNeg) := by
    rw [arrV_size]
    rintro (z | z)
    · exact hj z
    · omega
  have done : ∀ H' : Heap, H'[a]? = some ((arrV (D.2.2 t) fs.length (vp_V fs)).setSlot j.toNatClampNeg (.int x)) → H'.size = H.size → (∀ z, z ≠ a → H'[z]? = H[z]?) → W p l e R s m args below meth c H' (locs ++ [⟨a, j.toNatClampNeg⟩]) cells slots Q (F0 m (pc + 1) ls S) := by
    intro H' e1 e2 e3
    rw [am_set _ hlt] at e1
    refine k H' _ ls (hP.put e2 e3 (Or.inr ⟨g1, Or.inl e1⟩)) hL (fun z hz => ?_)
    rcases List.mem_append.mp hz with z1 | z1
    · exact hF z z1
    · rw [List.mem_singleton.mp z1]; exact hBa
  subst ht
  exact W.iast hx hb g2 harr (fun z => by cases z) hin rfl rfl hdg done
theorem am_v_last (X : am_Cx D p s m args meth c M) {a t : Nat} {fs : List Value} {j : Int32} {x : Int64} (ha : h.1 a = some (t, fs)) (ht : t = 21) (hj : ¬ j < 0) (hlt : j.toNatClampNeg < fs.length) (hBa : B ≤ a) (hdg : decode M.2.2.1 pc = .ok (.lastore, 1)) (k : am_V p l e R s m args below meth c Q D B M cells slots (pc + 1) L S (am_put h a (t, fs.set j.toNatClampNeg (.long x)))) : am_V p l e R s m args below meth c Q D B M cells slots pc L ((.long x) :: .int j :: .ref a :: S) h := by
  obtain ⟨hx, hb, hml, hr, hlk, hown, hts, hK, hnm, hM⟩ := X
  intro H locs ls hP hL hF
  
  rcases hP.2.2 a t fs ha with ⟨r', g1, -⟩ | ⟨g1, g2⟩
  · exact absurd (am_lt13 g1) (by omega)
  rcases g2 with g2 | ⟨w1, -⟩
  rotate_left
  · exact absurd w1 (by omega)
  have harr := (hK.2.1 t g1.1 g1.2).1 fs.length (vp_V fs)
  
  have hin : ¬ (j < 0 ∨ (arrV (D.2.2 t) fs.length (vp_V fs)).slots.size ≤ j.toNatClampNeg) := by
    rw [arrV_size]
    rintro (z | z)
    · exact hj z
    · omega
  have done : ∀ H' : Heap, H'[a]? = some ((arrV (D.2.2 t) fs.length (vp_V fs)).setSlot j.toNatClampNeg (.long x)) → H'.size = H.size → (∀ z, z ≠ a → H'[z]? = H[z]?) → W p l e R s m args below meth c H' (locs ++ [⟨a, j.toNatClampNeg⟩]) cells slots Q (F0 m (pc + 1) ls S) := by
    intro H' e1 e2 e3
    rw [am_set _ hlt] at e1
    refine k H' _ ls (hP.put e2 e3 (Or.inr ⟨g1, Or.inl e1⟩)) hL (fun z hz => ?_)
    rcases List.mem_append.mp hz with z1 | z1
    · exact hF z z1
    · rw [List.mem_singleton.mp z1]; exact hBa
  subst ht
  exact W.last hx hb g2 harr (fun z => by cases z) hin rfl rfl hdg done
theorem am_v_aastN (X : am_Cx D p s m args meth c M) {a t : Nat} {fs : List Value} {j : Int32} (ha : h.1 a = some (t, fs)) (ht : 22 ≤ t ∧ t < 26) (hj : ¬ j < 0) (hlt : j.toNatClampNeg < fs.length) (hBa : B ≤ a) (hdg : decode M.2.2.1 pc = .ok (.aastore, 1)) (k : am_V p l e R s m args below meth c Q D B M cells slots (pc + 1) L S (am_put h a (t, fs.set j.toNatClampNeg .null))) : am_V p l e R s m args below meth c Q D B M cells slots pc L (.null :: .int j :: .ref a :: S) h := by
  obtain ⟨hx, hb, hml, hr, hlk, hown, hts, hK, hnm, hM⟩ := X
  intro H locs ls hP hL hF
  
  rcases hP.2.2 a t fs ha with ⟨r', g1, -⟩ | ⟨g1, g2⟩
  · exact absurd (am_lt13 g1) (by omega)
  rcases g2 with g2 | ⟨w1, -⟩
  rotate_left
  · exact absurd w1 (by omega)
  have harr := (hK.2.1 t g1.1 g1.2).1 fs.length (vp_V fs)
  
  have hin : ¬ (j < 0 ∨ (arrV (D.2.2 t) fs.length (vp_V fs)).slots.size ≤ j.toNatClampNeg) := by
    rw [arrV_size]
    rintro (z | z)
    · exact hj z
    · omega
  have done : ∀ H' : Heap, H'[a]? = some ((arrV (D.2.2 t) fs.length (vp_V fs)).setSlot j.toNatClampNeg .null) → H'.size = H.size → (∀ z, z ≠ a → H'[z]? = H[z]?) → W p l e R s m args below meth c H' (locs ++ [⟨a, j.toNatClampNeg⟩]) cells slots Q (F0 m (pc + 1) ls S) := by
    intro H' e1 e2 e3
    rw [am_set _ hlt] at e1
    refine k H' _ ls (hP.put e2 e3 (Or.inr ⟨g1, Or.inl e1⟩)) hL (fun z hz => ?_)
    rcases List.mem_append.mp hz with z1 | z1
    · exact hF z z1
    · rw [List.mem_singleton.mp z1]; exact hBa
  
  have hc : am_aty t = .object (am_acn t) := by
    rcases (show t = 22 ∨ t = 23 ∨ t = 24 ∨ t = 25 by omega) with rfl | rfl | rfl | rfl <;> rfl
  rw [hc] at harr
  exact va_WaastN hx hb g2 harr (fun z => by cases z) hin rfl rfl hdg done
theorem am_v_aast (X : am_Cx D p s m args meth c M) {a t b t2 : Nat} {fs gs : List Value} {j : Int32} (ha : h.1 a = some (t, fs)) (hb0 : h.1 b = some (t2, gs)) (ht : 22 ≤ t ∧ t < 26) (hel : (am_ael t).contains t2 = true) (hj : ¬ j < 0) (hlt : j.toNatClampNeg < fs.length) (hBa : B ≤ a) (hdg : decode M.2.2.1 pc = .ok (.aastore, 1)) (k : am_V p l e R s m args below meth c Q D B M cells slots (pc + 1) L S (am_put h a (t, fs.set j.toNatClampNeg (.ref b)))) : am_V p l e R s m args below meth c Q D B M cells slots pc L (.ref b :: .int j :: .ref a :: S) h := by
  obtain ⟨hx, hb, hml, hr, hlk, hown, hts, hK, hnm, hM⟩ := X
  intro H locs ls hP hL hF
  
  rcases hP.2.2 a t fs ha with ⟨r', g1, -⟩ | ⟨g1, g2⟩
  · exact absurd (am_lt13 g1) (by omega)
  rcases g2 with g2 | ⟨w1, -⟩
  rotate_left
  · exact absurd w1 (by omega)
  have harr := (hK.2.1 t g1.1 g1.2).1 fs.length (vp_V fs)
  
  have hin : ¬ (j < 0 ∨ (arrV (D.2.2 t) fs.length (vp_V fs)).slots.size ≤ j.toNatClampNeg) := by
    rw [arrV_size]
    rintro (z | z)
    · exact hj z
    · omega
  have done : ∀ H' : Heap, H'[a]? = some ((arrV (D.2.2 t) fs.length (vp_V fs)).setSlot j.toNatClampNeg (.ref b)) → H'.size = H.size → (∀ z, z ≠ a → H'[z]? = H[z]?) → W p l e R s m args below meth c H' (locs ++ [⟨a, j.toNatClampNeg⟩]) cells slots Q (F0 m (pc + 1) ls S) := by
    intro H' e1 e2 e3
    rw [am_set _ hlt] at e1
    refine k H' _ ls (hP.put e2 e3 (Or.inr ⟨g1, Or.inl e1⟩)) hL (fun z hz => ?_)
    rcases List.mem_append.mp hz with z1 | z1
    · exact hF z z1
    · rw [List.mem_singleton.mp z1]; exact hBa
  
  have hmem : t2 ∈ am_ael t := List.contains_iff_mem.mp hel
  have hc : ∃ (ci : Nat) (q : vw_C), vwCl[ci]? = some q ∧ am_aty t = .object q.1 ∧ (t2 = ci ∨ (ci = 1 ∧ t2 ∈ [0, 1, 2, 3, 4, 6, 9, 10])) ∧ t2 < 13 := by
    rcases (show t = 22 ∨ t = 23 ∨ t = 24 ∨ t = 25 by omega) with rfl | rfl | rfl | rfl
    · have : t2 = 7 := by simpa [am_ael] using hmem
      exact ⟨7, _, rfl, rfl, Or.inl this, by omega⟩
    · have : t2 = 5 := by simpa [am_ael] using hmem
      exact ⟨5, _, rfl, rfl, Or.inl this, by omega⟩
    · have h2 : t2 ∈ [0, 1, 2, 3, 4, 6, 9, 10] := hmem
      refine ⟨1, _, rfl, rfl, Or.inr ⟨rfl, h2⟩, ?_⟩
      simp at h2
      omega
    · have : t2 = 8 := by simpa [am_ael] using hmem
      exact ⟨8, _, rfl, rfl, Or.inl this, by omega⟩
  obtain ⟨ci, q, hci, hty, hrel, ht13⟩ := hc
  rcases hP.2.2 b t2 gs hb0 with ⟨r2, b1, b2, cellb, c1, c2, c3, c4⟩ | ⟨b1, -⟩
  rotate_left
  · exact absurd ht13 (by omega)
  have hRA := (hK.2.1 t g1.1 g1.2).2
  rw [hty] at hRA
  obtain ⟨kA, comp, r1, r3, r4, r5⟩ := hRA
  obtain ⟨-, hfc, kC, hkC, hkind⟩ := hK.1 ci _ hci
  obtain ⟨-, hfc2, kC2, hkC2, hkind2⟩ := hK.1 t2 _ b1
  have hcomp : comp = D.1 ci := Option.some.inj (r4.symm.trans hfc)
  subst hcomp
  have hasg : s.vm.assignable (D.1 t2) (D.1 ci) = true := by
    rcases hrel with rfl | ⟨rfl, hm⟩
    · exact va_assign ⟨hfc2, kC2, hkC2, hkind2⟩
    · exact hK.2.2.2.2 t2 hm
  refine W.aast hx hb g2 (fun q z => by cases z) (fun z => by cases z) (k := kA) r1 r3 rfl hkC ⟨hj, by rw [arrV_size]; exact hlt⟩ c1 (fun q => by rw [c3]; exact fun z => by cases z) (kv := kC2) (by rw [c2]; exact hkC2) (by rw [c2]; exact hasg) rfl rfl hdg done
theorem am_v_alen (X : am_Cx D p s m args meth c M) {a t : Nat} {fs : List Value} (ha : h.1 a = some (t, fs)) (ht : 20 ≤ t ∧ t < 26) (hdg : decode M.2.2.1 pc = .ok (.arraylength, 1)) (k : am_V p l e R s m args below meth c Q D B M cells slots (pc + 1) L (.int (Int32.ofNat fs.length) :: S) h) : am_V p l e R s m args below meth c Q D B M cells slots pc L (.ref a :: S) h := by
  obtain ⟨hx, hb, hml, hr, hlk, hown, hts, hK, hnm, hM⟩ := X
  intro H locs ls hP hL hF
  
  rcases hP.2.2 a t fs ha with ⟨r', g1, -⟩ | ⟨g1, g2⟩
  · exact absurd (am_lt13 g1) (by omega)
  have harr := (hK.2.1 t g1.1 g1.2).1 fs.length (vp_V fs)
  
  rcases g2 with g2 | ⟨w1, w2, cw, w3, w4, w5, w6, w7⟩
  rotate_left
  · exact W.alen (ty := .int) hx hb w3 ⟨w7, by rw [w4]; exact (hK.2.2.1.2.2 fs.length (vp_V fs)).2⟩ (by rw [w5, arrV_size]) rfl rfl hdg (k H locs ls hP hL hF)
  exact W.alen hx hb g2 harr (by rw [arrV_size]) rfl rfl hdg (k H locs ls hP hL hF)
theorem am_v_new (X : am_Cx D p s m args meth c M) {i t : Nat} (hn : am_nw M.1 i = some t) (hc : cells + 1 ≤ R.cells) (hs : slots + am_N t ≤ R.slots) (hdg : decode M.2.2.1 pc = .ok (.new i, 3)) (k : am_V p l e R s m args below meth c Q D B M (cells + 1) (slots + am_N t) (pc + 3) L (.ref h.2.1 :: S) (am_new h (t, am_df t) (am_N t))) : am_V p l e R s m args below meth c Q D B M cells slots pc L S h := by
  obtain ⟨hx, hb, hml, hr, hlk, hown, hts, hK, hnm, hM⟩ := X
  unfold am_nw at hn
  rw [Option.map_eq_some_iff] at hn
  obtain ⟨q, hq, hv⟩ := hn
  have hi : q.1 = i := by simpa using List.find?_some hq
  have hck := List.all_eq_true.mp (am_nck_ok M.1 hM) q (List.mem_of_find?_eq_some hq)
  subst hv
  subst hi
  unfold am_nck at hck
  split at hck
  rotate_left
  · cases hck
  rename_i r p1 p2 p3 hr2 hps
  rw [Bool.and_eq_true, Bool.and_eq_true] at hck
  obtain ⟨w1, w2, w3⟩ := hck
  obtain ⟨hin, hty, hnmm, hN⟩ := am_cls_ok _ r hr2
  have hKn := hK.1 _ _ hr2
  intro H locs ls hP hL hF
  
  refine W.newcK hx hb hown (hts _ (am_w_in w1)) (hts _ (am_w_in w2)) (hts _ (am_w_in w3)) rfl hdg hc (by rw [hN]; exact hs) hKn.2.1 rfl fun H1 kC hkC e1 z1 o1 => ?_
  rw [hN, hP.1]
  refine k H1 locs ls (hP.new z1 o1 (Or.inl ⟨r, hr2, ?_, (u_born (am_ty q.2.1) hts hin hKn hkC e1 hty).to ?_⟩)) hL hF
  · rw [am_df, List.length_map, List.length_range, hN]
  · intro j hj
    exact (am_vV (by rw [am_df, List.getElem?_map, List.getElem?_range (hN ▸ hj)]; rfl)).symm
theorem am_v_newaI (X : am_Cx D p s m args meth c M) {n : Int32} (hn : ¬ n < 0) (hsz : n.toNatClampNeg ≤ 100000) (hc : cells + 1 ≤ R.cells) (hs : slots + n.toNatClampNeg ≤ R.slots) (hdg : decode M.2.2.1 pc = .ok (.newarray .int, 2)) (k : am_V p l e R s m args below meth c Q D B M (cells + 1) (slots + n.toNatClampNeg) (pc + 2) L (.ref h.2.1 :: S) (am_new h (20, List.replicate n.toNatClampNeg (.int 0)) n.toNatClampNeg)) : am_V p l e R s m args below meth c Q D B M cells slots pc L (.int n :: S) h := by
  obtain ⟨hx, hb, hml, hr, hlk, hown, hts, hK, hnm, hM⟩ := X
  intro H locs ls hP hL hF
  
  refine va_newaK (atype := .int) hx hb (hts _ (am_ac20)) rfl hdg rfl hn rfl (Nat.le_trans (Nat.mul_le_mul hsz (Nat.le_refl _)) (Nat.le_of_ble_eq_true rfl)) hc hs rfl fun H1 cA e1 z1 o1 hAr hNm => ?_
  have hcA : cA = D.2.2 20 := Option.some.inj (hNm.symm.trans (hK.2.1 20 (by omega) (by omega)).2)
  subst hcA
  rw [hP.1]
  refine k H1 locs ls (hP.new z1 o1 (Or.inr ⟨by omega, Or.inl ?_⟩)) hL hF
  rw [e1, List.length_replicate]
  congr 1
  exact am_arr fun j hj => (am_vV (by rw [List.getElem?_replicate, if_pos hj]; rfl)).symm
theorem am_v_newaL (X : am_Cx D p s m args meth c M) {n : Int32} (hn : ¬ n < 0) (hsz : n.toNatClampNeg ≤ 100000) (hc : cells + 1 ≤ R.cells) (hs : slots + n.toNatClampNeg ≤ R.slots) (hdg : decode M.2.2.1 pc = .ok (.newarray .long, 2)) (k : am_V p l e R s m args below meth c Q D B M (cells + 1) (slots + n.toNatClampNeg) (pc + 2) L (.ref h.2.1 :: S) (am_new h (21, List.replicate n.toNatClampNeg (.long 0)) n.toNatClampNeg)) : am_V p l e R s m args below meth c Q D B M cells slots pc L (.int n :: S) h := by
  obtain ⟨hx, hb, hml, hr, hlk, hown, hts, hK, hnm, hM⟩ := X
  intro H locs ls hP hL hF
  
  refine va_newaK (atype := .long) hx hb (hts _ (am_ac21)) rfl hdg rfl hn rfl (Nat.le_trans (Nat.mul_le_mul hsz (Nat.le_refl _)) (Nat.le_of_ble_eq_true rfl)) hc hs rfl fun H1 cA e1 z1 o1 hAr hNm => ?_
  have hcA : cA = D.2.2 21 := Option.some.inj (hNm.symm.trans (hK.2.1 21 (by omega) (by omega)).2)
  subst hcA
  rw [hP.1]
  refine k H1 locs ls (hP.new z1 o1 (Or.inr ⟨by omega, Or.inl ?_⟩)) hL hF
  rw [e1, List.length_replicate]
  congr 1
  exact am_arr fun j hj => (am_vV (by rw [List.getElem?_replicate, if_pos hj]; rfl)).symm
theorem am_v_anew (X : am_Cx D p s m args meth c M) {i t : Nat} {n : Int32} (ht : am_an M.1 i = some t) (hn : ¬ n < 0) (hsz : n.toNatClampNeg ≤ 100000) (hc : cells + 1 ≤ R.cells) (hs : slots + n.toNatClampNeg ≤ R.slots) (hdg : decode M.2.2.1 pc = .ok (.anewarray i, 3)) (k : am_V p l e R s m args below meth c Q D B M (cells + 1) (slots + n.toNatClampNeg) (pc + 3) L (.ref h.2.1 :: S) (am_new h (t, List.replicate n.toNatClampNeg .null) n.toNatClampNeg)) : am_V p l e R s m args below meth c Q D B M cells slots pc L (.int n :: S) h := by
  obtain ⟨hx, hb, hml, hr, hlk, hown, hts, hK, hnm, hM⟩ := X
  unfold am_an at ht
  rw [Option.map_eq_some_iff] at ht
  obtain ⟨q, hq, hv⟩ := ht
  have hi : q.1 = i := by simpa using List.find?_some hq
  have hck := List.all_eq_true.mp (am_ack_ok M.1 hM) q (List.mem_of_find?_eq_some hq)
  subst hv
  subst hi
  unfold am_ack at hck
  rw [Bool.and_eq_true] at hck
  have h22 := of_decide_eq_true hck.1
  have w1 := am_w_in hck.2
  intro H locs ls hP hL hF
  
  refine W.anew hx hb hown (hts _ w1) ((hK.2.2.2.1 q.2.1 h22.1 h22.2).use) rfl hdg rfl hn (Nat.le_trans (Nat.mul_le_mul hsz (Nat.le_refl _)) (Nat.le_of_ble_eq_true rfl)) hc hs fun cA kA comp f1 f2 f3 f4 => ?_
  have hcA : cA = D.2.2 q.2.1 := by
    have hRA := (hK.2.1 q.2.1 (by omega) h22.2).2
    have hc : am_aty q.2.1 = .object (am_acn q.2.1) := by
      have h22' := h22
      generalize q.2.1 = t at h22'
      rcases (show t = 22 ∨ t = 23 ∨ t = 24 ∨ t = 25 by omega) with rfl | rfl | rfl | rfl <;> rfl
    rw [hc] at hRA
    obtain ⟨_, _, -, -, -, r5⟩ := hRA
    exact Option.some.inj (f1.symm.trans r5)
  subst hcA
  rw [hP.1]
  refine k _ locs ls (hP.new (by simp) (fun z hz => by rw [Array.getElem?_push, if_neg (Nat.ne_of_lt hz)]) (Or.inr ⟨⟨by omega, h22.2⟩, Or.inl ?_⟩)) hL hF
  rw [List.length_replicate, arrV_new]
  simp only [Array.getElem?_push_size]
  congr 1
  exact am_arr fun j hj => (am_vV (by rw [List.getElem?_replicate, if_pos hj])).symm
end STEP
