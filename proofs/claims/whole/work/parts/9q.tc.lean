/-! toss: contracts (by hand) -/
section
variable {p : Program} {l : Launch} {e : Env} {R : Room} {s : State} {m : MethodId} {args : Array Value} {below : List Frame} {meth : Method} {c : Code} {D : am_D} {B : Nat} {M : Mth} {cells slots pc : Nat} {L : List Value} {h : Hp}
theorem ax_iret {mc ms : Nat} {XC : String → State → State → Prop} {x : Int32} {ty : FieldType} (X : am_Cx D p s m args meth c M) (hdg : decode M.2.2.1 pc = .ok (.ireturn, 1)) (ht : M.2.2.2.2 = some ty) (hn : narrow ty (.int x) = .int x) (h1 : cells = mc) (h2 : slots = ms) : am_V p l e R s m args below meth c (vx_MQ below (am_Qc D B (some (.int x)) h) XC args s mc ms (fun q => B ≤ q)) D B M cells slots pc L [.int x] h :=
  ax_ret X hdg rfl (by simp only [am_ret, ht]; rw [if_pos hn]) h1 h2
end
section
variable {l : Launch} {D : am_D} {B d x y : Nat} {h : Hp} {hi : Int} {hw ck cf rs : Nat → Int} {rx : Nat → List Int} {sa : Nat → Nat} {p0 : Int}
theorem ts_none (Zs : Scr h x hi) (V : Shv h x y hw ck cf rs rx sa) (hp : -2147483648 ≤ p0 ∧ p0 ≤ 2147483647) (hq : ¬ ((0 ≤ p0 ∧ p0 ≤ 7) ∧ hw p0.toNat = 1)) :
    vx_Met l yX11_toss (am_wsH mX11_toss hhT) (rmX (d + 12) 0 0) (ax_Pc D B [.ref x, .int (i32 p0)] h) (am_Qc D B (some (.int (i32 (why hw p0)))) h) X0 0 0 (fun q => B ≤ q) := by
  refine ax_metH (C := mX11_toss) (hh := hhT) (by decide +kernel) rfl (by decide) (show 2 ≤ 4 by decide) ?_
  intro p e s m below meth c htab X Z
  obtain ⟨⟨bs, z0⟩, -⟩ := id Zs
  refine am_v_aload_n X rfl dX11_toss_0 ?_
  refine am_v_iload_n X rfl dX11_toss_1 ?_
  refine am_callEx (mode := 2) (d := d + 11) X dX11_toss_2 rfl rfl (by decide) rfl rfl rfl rfl (by show am_rc 2 [11] [.ref x, .int (i32 p0)] h = true; simp only [am_rc, z0]; rfl) rfl rfl (x11_kindOn (d := d + 9) Zs V hp) (Nat.le_refl _) (Nat.le_refl _) (Nat.zero_le _) (Nat.zero_le _) ?_
  rw [kind_none hq]
  refine am_v_astore_nN X (show 2 < 4 by decide) dX11_toss_5 ?_
  refine am_v_aload_nN X rfl dX11_toss_6 ?_
  refine am_v_ifnonnullN X dX11_toss_7 ?_
  refine am_v_aload_n X rfl dX11_toss_10 ?_
  refine am_v_iload_n X rfl dX11_toss_11 ?_
  refine am_callEx (mode := 2) (d := d + 11) X dX11_toss_12 rfl rfl (by decide) rfl rfl rfl rfl (by show am_rc 2 [11] [.ref x, .int (i32 p0)] h = true; simp only [am_rc, z0]; rfl) rfl rfl (x11_whyNot (d := d + 7) Zs V hp) (Nat.le_refl _) (Nat.le_refl _) (Nat.zero_le _) (Nat.zero_le _) ?_
  exact ax_iret X dX11_toss_15 rfl rfl rfl rfl
theorem ts_quiet {C : String} {F : Mth} (Zs : Scr h x hi) (V : Shv h x y hw ck cf rs rx sa) (hp : -2147483648 ≤ p0 ∧ p0 ≤ 2147483647) (hq : (0 ≤ p0 ∧ p0 ≤ 7) ∧ hw p0.toNat = 1) (hW : tsW C F = true) (hC : (vwCl[ktag (ck p0.toNat)]?).map (fun q => q.1) = some C)
    (hM : vx_Met l F.2.1 (am_ws F) (rmX (d + 11) 0 0) (ax_Pc D B [.ref (sa p0.toNat)] h) (am_Qc D B none h) X0 0 0 (fun q => B ≤ q)) :
    vx_Met l yX11_toss (am_wsH mX11_toss hhT) (rmX (d + 12) 0 0) (ax_Pc D B [.ref x, .int (i32 p0)] h) (am_Qc D B (some (.int (i32 (-15)))) h) X0 0 0 (fun q => B ≤ q) := by
  refine ax_metH (C := mX11_toss) (hh := hhT) (by decide +kernel) rfl (by decide) (show 2 ≤ 4 by decide) ?_
  intro p e s m below meth c htab X Z
  obtain ⟨⟨bs, z0⟩, -⟩ := id Zs
  obtain ⟨Kd, hya⟩ := V.kind hq
  refine am_v_aload_n X rfl dX11_toss_0 ?_
  refine am_v_iload_n X rfl dX11_toss_1 ?_
  refine am_callEx (mode := 2) (d := d + 11) X dX11_toss_2 rfl rfl (by decide) rfl rfl rfl rfl (by show am_rc 2 [11] [.ref x, .int (i32 p0)] h = true; simp only [am_rc, z0]; rfl) rfl rfl (x11_kindOn (d := d + 9) Zs V hp) (Nat.le_refl _) (Nat.le_refl _) (Nat.zero_le _) (Nat.zero_le _) ?_
  rw [kind_some hq]
  refine am_v_astore_n X (show 2 < 4 by decide) dX11_toss_5 ?_
  refine am_v_aload_n X rfl dX11_toss_6 ?_
  refine am_v_ifnonnull X rfl dX11_toss_7 ?_
  refine am_v_aload_n X rfl dX11_toss_16 ?_
  refine ts_call (d := d + 11) X Z hW Kd.1 hC hM (Nat.le_refl _) (show 100 * (d + 12) ≤ 100 * (d + 12) from Nat.le_refl _) (Nat.le_refl _) (Nat.le_refl _) (fun v st t q => ?_) (fun ls E st t q ce locs1 hL hx hF hce hcv hcl => hx.elim)
  obtain ⟨q1, q2, q3⟩ := q
  cases q1
  refine ⟨h, q2, ?_⟩
  refine am_v_goto X rfl dX11_toss_20 ?_
  refine am_v_bipush X dX11_toss_48 ?_
  exact ax_iret X dX11_toss_50 rfl rfl rfl rfl
theorem ts_ia {C : String} {F : Mth} (Zs : Scr h x hi) (V : Shv h x y hw ck cf rs rx sa) (hp : -2147483648 ≤ p0 ∧ p0 ≤ 2147483647) (hq : (0 ≤ p0 ∧ p0 ≤ 7) ∧ hw p0.toNat = 1) (hW : tsW C F = true) (hC : (vwCl[ktag (ck p0.toNat)]?).map (fun q => q.1) = some C)
    (hM : vx_Met l F.2.1 (am_ws F) (rmX (d + 11) 1 6) (ax_Pc D B [.ref (sa p0.toNat)] h) Q0 (XT D B iaE h) 1 6 (fun q => B ≤ q)) :
    vx_Met l yX11_toss (am_wsH mX11_toss hhT) (rmX (d + 12) 1 6) (ax_Pc D B [.ref x, .int (i32 p0)] h) (am_Qc D B (some (.int (i32 (200 + sp_price (ck p0.toNat) (cf p0.toNat))))) (hp1 h)) X0 1 6 (fun q => B ≤ q) := by
  refine ax_metH (C := mX11_toss) (hh := hhT) (by decide +kernel) rfl (by decide) (show 2 ≤ 4 by decide) ?_
  intro p e s m below meth c htab X Z
  obtain ⟨⟨bs, z0⟩, -⟩ := id Zs
  obtain ⟨Kd, hya⟩ := V.kind hq
  refine am_v_aload_n X rfl dX11_toss_0 ?_
  refine am_v_iload_n X rfl dX11_toss_1 ?_
  refine am_callEx (mode := 2) (d := d + 11) X dX11_toss_2 rfl rfl (by decide) rfl rfl rfl rfl (by show am_rc 2 [11] [.ref x, .int (i32 p0)] h = true; simp only [am_rc, z0]; rfl) rfl rfl (x11_kindOn (d := d + 9) Zs V hp) (Nat.le_refl _) (Nat.le_refl _) (Nat.zero_le _) (Nat.zero_le _) ?_
  rw [kind_some hq]
  refine am_v_astore_n X (show 2 < 4 by decide) dX11_toss_5 ?_
  refine am_v_aload_n X rfl dX11_toss_6 ?_
  refine am_v_ifnonnull X rfl dX11_toss_7 ?_
  refine am_v_aload_n X rfl dX11_toss_16 ?_
  refine ts_call (d := d + 11) X Z hW Kd.1 hC hM (Nat.le_refl _) (show 100 * (d + 12) ≤ 100 * (d + 12) from Nat.le_refl _) (Nat.le_refl _) (Nat.le_refl _) (fun v st t q => q.elim) (fun ls E st t q ce locs1 hL hx hF hce hcv hcl => ?_)
  obtain ⟨rfl, hP1, hK1⟩ := hx
  refine vx_catch (own := RX11) (name := iaE) X.2.2.2.2.2.1 [] ⟨16, 20, 23, 298⟩ [⟨16, 20, 33, 333⟩, ⟨16, 20, 42, 305⟩] (htab.trans rfl) (fun z hz => nomatch hz) (by decide) (by decide) (X.2.2.2.2.2.2.1 _ (lwAll_use tw_c _ (by simp))) (va_Nw.use rfl Z.2.2.1.1) hce hcv hcl ?_
  refine (?_ : am_V p l e _ s m _ below meth c _ D B mX11_toss _ _ 23 _ [.ref q] (hp1 h)) t.heap locs1 ls hP1 hL hF
  refine am_v_astore_n X (show 3 < 4 by decide) dX11_toss_23 ?_
  refine am_v_sipush X dX11_toss_24 ?_
  refine am_v_aload_n X rfl dX11_toss_27 ?_
  refine am_v_getf X (show (hp1 h).1 (sa p0.toNat) = _ from Kd.1) rfl rfl (ktag_in _) dX11_toss_28 ?_
  refine am_v_iadd X dX11_toss_31 ?_
  rw [show (Int16.ofInt 200).toInt32 = i32 200 from rfl, i32_add]
  exact ax_iret X dX11_toss_32 rfl rfl rfl rfl
theorem ts_uo {C : String} {F : Mth} (Zs : Scr h x hi) (V : Shv h x y hw ck cf rs rx sa) (hp : -2147483648 ≤ p0 ∧ p0 ≤ 2147483647) (hq : (0 ≤ p0 ∧ p0 ≤ 7) ∧ hw p0.toNat = 1) (hW : tsW C F = true) (hC : (vwCl[ktag (ck p0.toNat)]?).map (fun q => q.1) = some C)
    (hM : vx_Met l F.2.1 (am_ws F) (rmX (d + 11) 1 6) (ax_Pc D B [.ref (sa p0.toNat)] h) Q0 (XT D B uoE h) 1 6 (fun q => B ≤ q)) :
    vx_Met l yX11_toss (am_wsH mX11_toss hhT) (rmX (d + 12) 1 6) (ax_Pc D B [.ref x, .int (i32 p0)] h) (am_Qc D B (some (.int (i32 (100 + cf p0.toNat)))) (hp1 h)) X0 1 6 (fun q => B ≤ q) := by
  refine ax_metH (C := mX11_toss) (hh := hhT) (by decide +kernel) rfl (by decide) (show 2 ≤ 4 by decide) ?_
  intro p e s m below meth c htab X Z
  obtain ⟨⟨bs, z0⟩, -⟩ := id Zs
  obtain ⟨Kd, hya⟩ := V.kind hq
  refine am_v_aload_n X rfl dX11_toss_0 ?_
  refine am_v_iload_n X rfl dX11_toss_1 ?_
  refine am_callEx (mode := 2) (d := d + 11) X dX11_toss_2 rfl rfl (by decide) rfl rfl rfl rfl (by show am_rc 2 [11] [.ref x, .int (i32 p0)] h = true; simp only [am_rc, z0]; rfl) rfl rfl (x11_kindOn (d := d + 9) Zs V hp) (Nat.le_refl _) (Nat.le_refl _) (Nat.zero_le _) (Nat.zero_le _) ?_
  rw [kind_some hq]
  refine am_v_astore_n X (show 2 < 4 by decide) dX11_toss_5 ?_
  refine am_v_aload_n X rfl dX11_toss_6 ?_
  refine am_v_ifnonnull X rfl dX11_toss_7 ?_
  refine am_v_aload_n X rfl dX11_toss_16 ?_
  refine ts_call (d := d + 11) X Z hW Kd.1 hC hM (Nat.le_refl _) (show 100 * (d + 12) ≤ 100 * (d + 12) from Nat.le_refl _) (Nat.le_refl _) (Nat.le_refl _) (fun v st t q => q.elim) (fun ls E st t q ce locs1 hL hx hF hce hcv hcl => ?_)
  obtain ⟨rfl, hP1, hK1⟩ := hx
  refine vx_catch (own := RX11) (name := uoE) X.2.2.2.2.2.1 [⟨16, 20, 23, 298⟩] ⟨16, 20, 33, 333⟩ [⟨16, 20, 42, 305⟩] (htab.trans rfl) (fun z hz => ?_) (by decide) (by decide) (X.2.2.2.2.2.2.1 _ (lwAll_use tw_c _ (by simp))) (va_Nw.use rfl Z.2.2.1.2.2.1) hce hcv hcl ?_
  · rw [List.mem_singleton] at hz
    subst hz
    exact Or.inr ⟨by decide, iaE, X.2.2.2.2.2.2.1 _ (lwAll_use tw_c _ (by simp)), Z.2.2.2.2.1⟩
  refine (?_ : am_V p l e _ s m _ below meth c _ D B mX11_toss _ _ 33 _ [.ref q] (hp1 h)) t.heap locs1 ls hP1 hL hF
  refine am_v_astore_n X (show 3 < 4 by decide) dX11_toss_33 ?_
  refine am_v_bipush X dX11_toss_34 ?_
  refine am_v_aload_n X rfl dX11_toss_36 ?_
  refine am_v_getf X (show (hp1 h).1 (sa p0.toNat) = _ from Kd.1) rfl rfl (ktag_in _) dX11_toss_37 ?_
  refine am_v_iadd X dX11_toss_40 ?_
  rw [show (Int8.ofInt 100).toInt32 = i32 100 from rfl, i32_add]
  exact ax_iret X dX11_toss_41 rfl rfl rfl rfl
theorem ts_is {C : String} {F : Mth} (Zs : Scr h x hi) (V : Shv h x y hw ck cf rs rx sa) (hp : -2147483648 ≤ p0 ∧ p0 ≤ 2147483647) (hq : (0 ≤ p0 ∧ p0 ≤ 7) ∧ hw p0.toNat = 1) (hW : tsW C F = true) (hC : (vwCl[ktag (ck p0.toNat)]?).map (fun q => q.1) = some C)
    (hM : vx_Met l F.2.1 (am_ws F) (rmX (d + 11) 1 6) (ax_Pc D B [.ref (sa p0.toNat)] h) Q0 (XT D B isE h) 1 6 (fun q => B ≤ q)) :
    vx_Met l yX11_toss (am_wsH mX11_toss hhT) (rmX (d + 12) 1 6) (ax_Pc D B [.ref x, .int (i32 p0)] h) (am_Qc D B (some (.int (i32 (cf p0.toNat)))) (hp1 h)) X0 1 6 (fun q => B ≤ q) := by
  refine ax_metH (C := mX11_toss) (hh := hhT) (by decide +kernel) rfl (by decide) (show 2 ≤ 4 by decide) ?_
  intro p e s m below meth c htab X Z
  obtain ⟨⟨bs, z0⟩, -⟩ := id Zs
  obtain ⟨Kd, hya⟩ := V.kind hq
  refine am_v_aload_n X rfl dX11_toss_0 ?_
  refine am_v_iload_n X rfl dX11_toss_1 ?_
  refine am_callEx (mode := 2) (d := d + 11) X dX11_toss_2 rfl rfl (by decide) rfl rfl rfl rfl (by show am_rc 2 [11] [.ref x, .int (i32 p0)] h = true; simp only [am_rc, z0]; rfl) rfl rfl (x11_kindOn (d := d + 9) Zs V hp) (Nat.le_refl _) (Nat.le_refl _) (Nat.zero_le _) (Nat.zero_le _) ?_
  rw [kind_some hq]
  refine am_v_astore_n X (show 2 < 4 by decide) dX11_toss_5 ?_
  refine am_v_aload_n X rfl dX11_toss_6 ?_
  refine am_v_ifnonnull X rfl dX11_toss_7 ?_
  refine am_v_aload_n X rfl dX11_toss_16 ?_
  refine ts_call (d := d + 11) X Z hW Kd.1 hC hM (Nat.le_refl _) (show 100 * (d + 12) ≤ 100 * (d + 12) from Nat.le_refl _) (Nat.le_refl _) (Nat.le_refl _) (fun v st t q => q.elim) (fun ls E st t q ce locs1 hL hx hF hce hcv hcl => ?_)
  obtain ⟨rfl, hP1, hK1⟩ := hx
  refine vx_catch (own := RX11) (name := isE) X.2.2.2.2.2.1 [⟨16, 20, 23, 298⟩, ⟨16, 20, 33, 333⟩] ⟨16, 20, 42, 305⟩ [] (htab.trans rfl) (fun z hz => ?_) (by decide) (by decide) (X.2.2.2.2.2.2.1 _ (lwAll_use tw_c _ (by simp))) (va_Nw.use rfl Z.2.2.1.2.1) hce hcv hcl ?_
  · rcases List.mem_cons.mp hz with hz | hz
    · subst hz
      exact Or.inr ⟨by decide, iaE, X.2.2.2.2.2.2.1 _ (lwAll_use tw_c _ (by simp)), Z.2.2.2.1⟩
    · rw [List.mem_singleton] at hz
      subst hz
      exact Or.inr ⟨by decide, uoE, X.2.2.2.2.2.2.1 _ (lwAll_use tw_c _ (by simp)), Z.2.2.2.2.2⟩
  refine (?_ : am_V p l e _ s m _ below meth c _ D B mX11_toss _ _ 42 _ [.ref q] (hp1 h)) t.heap locs1 ls hP1 hL hF
  refine am_v_astore_n X (show 3 < 4 by decide) dX11_toss_42 ?_
  refine am_v_aload_n X rfl dX11_toss_43 ?_
  refine am_v_getf X (show (hp1 h).1 (sa p0.toNat) = _ from Kd.1) rfl rfl (ktag_in _) dX11_toss_44 ?_
  exact ax_iret X dX11_toss_47 rfl rfl rfl rfl
end
