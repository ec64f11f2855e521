/-! fail, element: contracts (by hand) -/
theorem f0_throw {l : Launch} {D : am_D} {B d b t : Nat} {fs : List Value} {f : Int} {h : Hp} (hfl : l.stackTraces = false) (hd : 6 ≤ d) (hb : h.1 b = some (t, fs)) (ht : [0, 3, 4, 6].contains t = true) (hf0 : fs[0]? = some (.int (i32 f))) (hf : ¬ i32 f = 0) :
    vx_Met l yX0_fail (am_ws mF0) (rmX d 1 6) (ax_Pc D B [.ref b] h) Q0 (XT D B uoE h) 1 6 (fun q => B ≤ q) := by
  refine ax_met (C := mF0) (by decide +kernel) rfl (by decide) (Nat.le_refl _) ?_
  intro p e s m below meth c hne X Z
  refine am_v_aload_n X rfl dX0_fail_0 ?_
  refine am_v_getf X hb rfl hf0 ht dX0_fail_1 ?_
  refine am_v_if_eq X rfl dX0_fail_4 (fun z => absurd z hf) (fun _ => ?_)
  exact am_throwS X hfl Z rfl uoFit wOk_0 Z.2.2.1.2.2.1 Z.2.1.2.2.2.1 hne dX0_fail_7 dX0_fail_10 dX0_fail_11 dX0_fail_13 dX0_fail_16 (show 5 < d by omega) (show 0 + 82 ≤ 100 * d by omega) (Nat.le_refl _) (Nat.le_refl _) (Nat.le_refl _) (Nat.le_refl _)
theorem f3_throw {l : Launch} {D : am_D} {B d b t : Nat} {fs : List Value} {f : Int} {h : Hp} (hfl : l.stackTraces = false) (hd : 6 ≤ d) (hb : h.1 b = some (t, fs)) (ht : [3].contains t = true) (hf0 : fs[0]? = some (.int (i32 f))) (hf : ¬ i32 f = 0) :
    vx_Met l yX3_fail (am_ws mF3) (rmX d 1 6) (ax_Pc D B [.ref b] h) Q0 (XT D B iaE h) 1 6 (fun q => B ≤ q) := by
  refine ax_met (C := mF3) (by decide +kernel) rfl (by decide) (Nat.le_refl _) ?_
  intro p e s m below meth c hne X Z
  refine am_v_aload_n X rfl dX3_fail_0 ?_
  refine am_v_getf X hb rfl hf0 ht dX3_fail_1 ?_
  refine am_v_if_eq X rfl dX3_fail_4 (fun z => absurd z hf) (fun _ => ?_)
  exact am_throwS X hfl Z rfl iaFit wOk_3 Z.2.2.1.1 Z.2.1.2.2.2.2.2 hne dX3_fail_7 dX3_fail_10 dX3_fail_11 dX3_fail_13 dX3_fail_16 (show 5 < d by omega) (show 0 + 82 ≤ 100 * d by omega) (Nat.le_refl _) (Nat.le_refl _) (Nat.le_refl _) (Nat.le_refl _)
theorem f0_ret {l : Launch} {D : am_D} {B d b t : Nat} {fs : List Value} {f : Int} {h : Hp} (hb : h.1 b = some (t, fs)) (ht : [0, 3, 4, 6].contains t = true) (hf0 : fs[0]? = some (.int (i32 f))) (hf : i32 f = 0) :
    vx_Met l yX0_fail (am_ws mF0) (rmX d 0 0) (ax_Pc D B [.ref b] h) (am_Qc D B none h) X0 0 0 (fun q => B ≤ q) := by
  refine ax_met (C := mF0) (by decide +kernel) rfl (by decide) (Nat.le_refl _) ?_
  intro p e s m below meth c hne X Z
  refine am_v_aload_n X rfl dX0_fail_0 ?_
  refine am_v_getf X hb rfl hf0 ht dX0_fail_1 ?_
  refine am_v_if_eq X rfl dX0_fail_4 (fun _ => ?_) (fun z => absurd hf z)
  exact ax_ret X dX0_fail_17 rfl rfl rfl rfl
theorem f1_ret {l : Launch} {D : am_D} {B d b t : Nat} {fs : List Value} {f : Int} {h : Hp} (hb : h.1 b = some (t, fs)) (ht : [0, 1, 2, 3, 4, 6, 9, 10].contains t = true) (hf0 : fs[0]? = some (.int (i32 f))) (hf : i32 f = 0) :
    vx_Met l yX1_fail (am_ws mF1) (rmX d 0 0) (ax_Pc D B [.ref b] h) (am_Qc D B none h) X0 0 0 (fun q => B ≤ q) := by
  refine ax_met (C := mF1) (by decide +kernel) rfl (by decide) (Nat.le_refl _) ?_
  intro p e s m below meth c hne X Z
  refine am_v_aload_n X rfl dX1_fail_0 ?_
  refine am_v_getf X hb rfl hf0 ht dX1_fail_1 ?_
  refine am_v_if_eq X rfl dX1_fail_4 (fun _ => ?_) (fun z => absurd hf z)
  exact ax_ret X dX1_fail_17 rfl rfl rfl rfl
theorem f3_ret {l : Launch} {D : am_D} {B d b t : Nat} {fs : List Value} {f : Int} {h : Hp} (hb : h.1 b = some (t, fs)) (ht : [3].contains t = true) (hf0 : fs[0]? = some (.int (i32 f))) (hf : i32 f = 0) :
    vx_Met l yX3_fail (am_ws mF3) (rmX d 0 0) (ax_Pc D B [.ref b] h) (am_Qc D B none h) X0 0 0 (fun q => B ≤ q) := by
  refine ax_met (C := mF3) (by decide +kernel) rfl (by decide) (Nat.le_refl _) ?_
  intro p e s m below meth c hne X Z
  refine am_v_aload_n X rfl dX3_fail_0 ?_
  refine am_v_getf X hb rfl hf0 ht dX3_fail_1 ?_
  refine am_v_if_eq X rfl dX3_fail_4 (fun _ => ?_) (fun z => absurd hf z)
  exact ax_ret X dX3_fail_17 rfl rfl rfl rfl
theorem f9_ret {l : Launch} {D : am_D} {B d b : Nat} {h : Hp} : vx_Met l yX9_fail (am_ws mF9) (rmX d 0 0) (ax_Pc D B [.ref b] h) (am_Qc D B none h) X0 0 0 (fun q => B ≤ q) := by
  refine ax_met (C := mF9) (by decide +kernel) rfl (by decide) (Nat.le_refl _) ?_
  intro p e s m below meth c hne X Z
  exact ax_ret X dX9_fail_0 rfl rfl rfl rfl
theorem f10_ret {l : Launch} {D : am_D} {B d b : Nat} {h : Hp} : vx_Met l yX10_fail (am_ws mF10) (rmX d 0 0) (ax_Pc D B [.ref b] h) (am_Qc D B none h) X0 0 0 (fun q => B ≤ q) := by
  refine ax_met (C := mF10) (by decide +kernel) rfl (by decide) (Nat.le_refl _) ?_
  intro p e s m below meth c hne X Z
  exact ax_ret X dX10_fail_0 rfl rfl rfl rfl
section
variable {l : Launch} {D : am_D} {B d x y : Nat} {h : Hp} {hi : Int} {hw ck cf rs : Nat → Int} {rx : Nat → List Int} {sa : Nat → Nat} {p0 q0 : Int}
theorem el_1 (hfl : l.stackTraces = false) (hp : -2147483648 ≤ p0 ∧ p0 ≤ 2147483647) (hq : ¬ (0 ≤ p0 ∧ p0 ≤ 7)) :
    vx_Met l yX11_element (am_ws mEl) (rmX (d + 12) 1 6) (ax_Pc D B [.ref x, .int (i32 p0), .int (i32 q0)] h) Q0 (XT D B iaE h) 1 6 (fun q => B ≤ q) := by
  refine ax_met (C := mEl) (by decide +kernel) rfl (by decide) (show 3 ≤ 4 by decide) ?_
  intro p e s m below meth c hne X Z
  refine am_v_iload_n X rfl dX11_element_0 ?_
  refine am_callEx (mode := 0) (d := d + 11) X dX11_element_1 rfl rfl (by decide) rfl rfl rfl rfl rfl rfl rfl (x11_isShelf (d := d + 10) hp) (Nat.le_refl _) (Nat.le_refl _) (Nat.zero_le _) (Nat.zero_le _) ?_
  rw [if_neg hq]
  refine am_v_if_ne X rfl dX11_element_4 (fun z => absurd rfl z) (fun _ => ?_)
  exact am_throwW X hfl Z rfl iaFit wOk_e1 Z.2.2.1.1 Z.2.1.1 hne dX11_element_7 dX11_element_10 dX11_element_11 dX11_element_14 dX11_element_17 (show 5 < d + 12 by omega) (show 0 + 82 ≤ 100 * (d + 12) by omega) (Nat.le_refl _) (Nat.le_refl _) (Nat.le_refl _) (Nat.le_refl _)
theorem el_2a (hfl : l.stackTraces = false) (Zs : Scr h x hi) (V : Shv h x y hw ck cf rs rx sa) (hp : -2147483648 ≤ p0 ∧ p0 ≤ 2147483647) (hq : 0 ≤ p0 ∧ p0 ≤ 7) (hq2 : ¬ hw p0.toNat = 2) :
    vx_Met l yX11_element (am_ws mEl) (rmX (d + 12) 1 6) (ax_Pc D B [.ref x, .int (i32 p0), .int (i32 q0)] h) Q0 (XT D B isE h) 1 6 (fun q => B ≤ q) := by
  refine ax_met (C := mEl) (by decide +kernel) rfl (by decide) (show 3 ≤ 4 by decide) ?_
  intro p e s m below meth c hne X Z
  obtain ⟨⟨bs, z0⟩, -⟩ := id Zs
  refine am_v_iload_n X rfl dX11_element_0 ?_
  refine am_callEx (mode := 0) (d := d + 11) X dX11_element_1 rfl rfl (by decide) rfl rfl rfl rfl rfl rfl rfl (x11_isShelf (d := d + 10) hp) (Nat.le_refl _) (Nat.le_refl _) (Nat.zero_le _) (Nat.zero_le _) ?_
  rw [if_pos hq]
  refine am_v_if_ne X rfl dX11_element_4 (fun _ => ?_) (fun z => absurd z (by decide))
  refine am_v_aload_n X rfl dX11_element_18 ?_
  refine am_v_iload_n X rfl dX11_element_19 ?_
  refine am_callEx (mode := 2) (d := d + 11) X dX11_element_20 rfl rfl (by decide) rfl rfl rfl rfl (by show am_rc 2 [11] [.ref x, .int (i32 p0)] h = true; simp only [am_rc, z0]; rfl) rfl rfl (x11_rowOn (d := d + 9) Zs V hp) (Nat.le_refl _) (Nat.le_refl _) (Nat.zero_le _) (Nat.zero_le _) ?_
  rw [row_none (fun z => hq2 z.2)]
  refine am_v_astore_nN X (show 3 < 4 by decide) dX11_element_23 ?_
  refine am_v_aload_nN X rfl dX11_element_24 ?_
  refine am_v_ifnonnullN X dX11_element_25 ?_
  exact am_throwW X hfl Z rfl isFit wOk_e2 Z.2.2.1.2.1 Z.2.1.2.1 hne dX11_element_28 dX11_element_31 dX11_element_32 dX11_element_35 dX11_element_38 (show 5 < d + 12 by omega) (show 0 + 82 ≤ 100 * (d + 12) by omega) (Nat.le_refl _) (Nat.le_refl _) (Nat.le_refl _) (Nat.le_refl _)
theorem el_2b (hfl : l.stackTraces = false) (Zs : Scr h x hi) (V : Shv h x y hw ck cf rs rx sa) (hp : -2147483648 ≤ p0 ∧ p0 ≤ 2147483647) (hqr : -2147483648 ≤ q0 ∧ q0 ≤ 2147483647) (hq : 0 ≤ p0 ∧ p0 ≤ 7) (hq2 : hw p0.toNat = 2) (hq3 : ¬ (0 ≤ q0 ∧ q0 < ((rx p0.toNat).length : Int))) :
    vx_Met l yX11_element (am_ws mEl) (rmX (d + 12) 1 6) (ax_Pc D B [.ref x, .int (i32 p0), .int (i32 q0)] h) Q0 (XT D B isE h) 1 6 (fun q => B ≤ q) := by
  refine ax_met (C := mEl) (by decide +kernel) rfl (by decide) (show 3 ≤ 4 by decide) ?_
  intro p e s m below meth c hne X Z
  obtain ⟨⟨bs, z0⟩, -⟩ := id Zs
  obtain ⟨W, hya⟩ := V.row ⟨hq, hq2⟩
  refine am_v_iload_n X rfl dX11_element_0 ?_
  refine am_callEx (mode := 0) (d := d + 11) X dX11_element_1 rfl rfl (by decide) rfl rfl rfl rfl rfl rfl rfl (x11_isShelf (d := d + 10) hp) (Nat.le_refl _) (Nat.le_refl _) (Nat.zero_le _) (Nat.zero_le _) ?_
  rw [if_pos hq]
  refine am_v_if_ne X rfl dX11_element_4 (fun _ => ?_) (fun z => absurd z (by decide))
  refine am_v_aload_n X rfl dX11_element_18 ?_
  refine am_v_iload_n X rfl dX11_element_19 ?_
  refine am_callEx (mode := 2) (d := d + 11) X dX11_element_20 rfl rfl (by decide) rfl rfl rfl rfl (by show am_rc 2 [11] [.ref x, .int (i32 p0)] h = true; simp only [am_rc, z0]; rfl) rfl rfl (x11_rowOn (d := d + 9) Zs V hp) (Nat.le_refl _) (Nat.le_refl _) (Nat.zero_le _) (Nat.zero_le _) ?_
  rw [row_some ⟨hq, hq2⟩]
  refine am_v_astore_n X (show 3 < 4 by decide) dX11_element_23 ?_
  refine am_v_aload_n X rfl dX11_element_24 ?_
  refine am_v_ifnonnull X rfl dX11_element_25 ?_
  refine am_v_aload_n X rfl dX11_element_39 ?_
  refine am_v_iload_n X rfl dX11_element_40 ?_
  refine am_callEx (mode := 2) (d := d + 11) X dX11_element_41 rfl rfl (by decide) rfl rfl rfl rfl (by show am_rc 2 [8] [.ref (sa p0.toNat), .int (i32 q0)] h = true; simp only [am_rc, W.1]; rfl) rfl rfl (x8_has (d := d + 10) W hqr) (Nat.le_refl _) (Nat.le_refl _) (Nat.zero_le _) (Nat.zero_le _) ?_
  rw [if_neg hq3]
  refine am_v_if_ne X rfl dX11_element_44 (fun z => absurd rfl z) (fun _ => ?_)
  exact am_throwW X hfl Z rfl isFit wOk_e2 Z.2.2.1.2.1 Z.2.1.2.2.1 hne dX11_element_47 dX11_element_50 dX11_element_51 dX11_element_54 dX11_element_57 (show 5 < d + 12 by omega) (show 0 + 82 ≤ 100 * (d + 12) by omega) (Nat.le_refl _) (Nat.le_refl _) (Nat.le_refl _) (Nat.le_refl _)
theorem el_0 (Zs : Scr h x hi) (V : Shv h x y hw ck cf rs rx sa) (hp : -2147483648 ≤ p0 ∧ p0 ≤ 2147483647) (hqr : -2147483648 ≤ q0 ∧ q0 ≤ 2147483647) (hq : 0 ≤ p0 ∧ p0 ≤ 7) (hq2 : hw p0.toNat = 2) (hq3 : 0 ≤ q0 ∧ q0 < ((rx p0.toNat).length : Int)) :
    vx_Met l yX11_element (am_ws mEl) (rmX (d + 12) 0 0) (ax_Pc D B [.ref x, .int (i32 p0), .int (i32 q0)] h) (am_Qc D B (some (.long (i64 (gx (rx p0.toNat) q0)))) h) X0 0 0 (fun q => B ≤ q) := by
  refine ax_met (C := mEl) (by decide +kernel) rfl (by decide) (show 3 ≤ 4 by decide) ?_
  intro p e s m below meth c hne X Z
  obtain ⟨⟨bs, z0⟩, -⟩ := id Zs
  obtain ⟨W, hya⟩ := V.row ⟨hq, hq2⟩
  have hr := gx_r W.2.2.2.2 q0
  refine am_v_iload_n X rfl dX11_element_0 ?_
  refine am_callEx (mode := 0) (d := d + 11) X dX11_element_1 rfl rfl (by decide) rfl rfl rfl rfl rfl rfl rfl (x11_isShelf (d := d + 10) hp) (Nat.le_refl _) (Nat.le_refl _) (Nat.zero_le _) (Nat.zero_le _) ?_
  rw [if_pos hq]
  refine am_v_if_ne X rfl dX11_element_4 (fun _ => ?_) (fun z => absurd z (by decide))
  refine am_v_aload_n X rfl dX11_element_18 ?_
  refine am_v_iload_n X rfl dX11_element_19 ?_
  refine am_callEx (mode := 2) (d := d + 11) X dX11_element_20 rfl rfl (by decide) rfl rfl rfl rfl (by show am_rc 2 [11] [.ref x, .int (i32 p0)] h = true; simp only [am_rc, z0]; rfl) rfl rfl (x11_rowOn (d := d + 9) Zs V hp) (Nat.le_refl _) (Nat.le_refl _) (Nat.zero_le _) (Nat.zero_le _) ?_
  rw [row_some ⟨hq, hq2⟩]
  refine am_v_astore_n X (show 3 < 4 by decide) dX11_element_23 ?_
  refine am_v_aload_n X rfl dX11_element_24 ?_
  refine am_v_ifnonnull X rfl dX11_element_25 ?_
  refine am_v_aload_n X rfl dX11_element_39 ?_
  refine am_v_iload_n X rfl dX11_element_40 ?_
  refine am_callEx (mode := 2) (d := d + 11) X dX11_element_41 rfl rfl (by decide) rfl rfl rfl rfl (by show am_rc 2 [8] [.ref (sa p0.toNat), .int (i32 q0)] h = true; simp only [am_rc, W.1]; rfl) rfl rfl (x8_has (d := d + 10) W hqr) (Nat.le_refl _) (Nat.le_refl _) (Nat.zero_le _) (Nat.zero_le _) ?_
  rw [if_pos hq3]
  refine am_v_if_ne X rfl dX11_element_44 (fun _ => ?_) (fun z => absurd z (by decide))
  refine am_v_aload_n X rfl dX11_element_58 ?_
  refine am_v_iload_n X rfl dX11_element_59 ?_
  refine am_callEx (mode := 2) (d := d + 11) X dX11_element_60 rfl rfl (by decide) rfl rfl rfl rfl (by show am_rc 2 [8] [.ref (sa p0.toNat), .int (i32 q0)] h = true; simp only [am_rc, W.1]; rfl) rfl rfl (x8_at (d := d + 9) W hqr) (Nat.le_refl _) (Nat.le_refl _) (Nat.zero_le _) (Nat.zero_le _) ?_
  refine am_v_i2l X dX11_element_63 ?_
  rw [show (i32 (gx (rx p0.toNat) q0)).toInt64 = i64 (gx (rx p0.toNat) q0) from i32_i2l hr]
  exact ax_ret X dX11_element_64 rfl rfl rfl rfl
end
