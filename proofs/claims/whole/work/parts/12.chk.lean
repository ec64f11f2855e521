/-! the tables' own rows, counted by the kernel -/
def am_w (p : Nat) (w : Cond) : Bool := decide (lw_tbl[p]? = some w) && goodWord w
theorem am_w_in {p : Nat} {w : Cond} (h : am_w p w = true) : w ∈ lw_good := by
  unfold am_w at h
  rw [Bool.and_eq_true] at h
  exact List.mem_filter.mpr ⟨List.mem_of_getElem? (of_decide_eq_true h.1), h.2⟩
theorem am_good : ∀ w ∈ lw_good, goodWord w = true := fun w h => (List.mem_filter.mp h).2
def am_uck (ws : List Cond) (ps : List Nat) : Bool := decide (ws.length = ps.length) && (ws.zip ps).all fun q => am_w q.2 q.1
theorem am_uck_in {ws : List Cond} {ps : List Nat} (h : am_uck ws ps = true) : ∀ w ∈ ws, w ∈ lw_good := by
  intro w hw
  unfold am_uck at h
  rw [Bool.and_eq_true] at h
  obtain ⟨i, hi⟩ := List.getElem?_of_mem hw
  have hl := of_decide_eq_true h.1
  have hlt : i < ws.length := (List.getElem?_eq_some_iff.mp hi).1
  have hp : ps[i]? = some (ps[i]'(hl ▸ hlt)) := List.getElem?_eq_getElem _
  have hz : (ws.zip ps)[i]? = some (w, ps[i]'(hl ▸ hlt)) := by
    rw [List.getElem?_zip_eq_some]
    exact ⟨hi, hp⟩
  exact am_w_in (List.all_eq_true.mp h.2 _ (List.mem_of_getElem? hz))
theorem am_u0 : ∀ w ∈ u_ws RX0 TX0 8, w ∈ lw_good := am_uck_in (ps := [394, 395, 396, 397, 398, 399, 400, 401]) (by decide +kernel)
theorem am_u1 : ∀ w ∈ u_ws RX1 TX1 8, w ∈ lw_good := am_uck_in (ps := [198, 200, 202, 204, 206, 208, 210, 212]) (by decide +kernel)
theorem am_u2 : ∀ w ∈ u_ws RX2 TX2 8, w ∈ lw_good := am_uck_in (ps := [469, 470, 471, 472, 473, 474, 475, 476]) (by decide +kernel)
theorem am_u3 : ∀ w ∈ u_ws RX3 TX3 8, w ∈ lw_good := am_uck_in (ps := [484, 485, 486, 487, 488, 489, 490, 491]) (by decide +kernel)
theorem am_u4 : ∀ w ∈ u_ws RX4 TX4 8, w ∈ lw_good := am_uck_in (ps := [454, 455, 456, 457, 458, 459, 460, 461]) (by decide +kernel)
theorem am_u5 : ∀ w ∈ u_ws RX5 TX5 4, w ∈ lw_good := am_uck_in (ps := [240, 242, 244, 246]) (by decide +kernel)
theorem am_u6 : ∀ w ∈ u_ws RX6 TX6 8, w ∈ lw_good := am_uck_in (ps := [439, 440, 441, 442, 443, 444, 445, 446]) (by decide +kernel)
theorem am_u7 : ∀ w ∈ u_ws RX7 TX7 5, w ∈ lw_good := am_uck_in (ps := [257, 259, 261, 263, 265]) (by decide +kernel)
theorem am_u8 : ∀ w ∈ u_ws RX8 TX8 2, w ∈ lw_good := am_uck_in (ps := [880, 882]) (by decide +kernel)
theorem am_u9 : ∀ w ∈ u_ws RX9 TX9 8, w ∈ lw_good := am_uck_in (ps := [409, 410, 411, 412, 413, 414, 415, 416]) (by decide +kernel)
theorem am_u10 : ∀ w ∈ u_ws RX10 TX10 8, w ∈ lw_good := am_uck_in (ps := [424, 425, 426, 427, 428, 429, 430, 431]) (by decide +kernel)
theorem am_u11 : ∀ w ∈ u_ws RX11 TX11 13, w ∈ lw_good := am_uck_in (ps := [283, 285, 287, 289, 291, 293, 295, 297, 299, 301, 303, 305, 307]) (by decide +kernel)
theorem am_u12 : ∀ w ∈ u_ws RX12 TX12 37, w ∈ lw_good := am_uck_in (ps := [1090, 1092, 1094, 1096, 1098, 1100, 1102, 1104, 1106, 1108, 1110, 1112, 1114, 1116, 1118, 1120, 1122, 1124, 1126, 1128, 1130, 1132, 1134, 1136, 1138, 1140, 1142, 1144, 1146, 1148, 1150, 1152, 1154, 1156, 1158, 1160, 1162]) (by decide +kernel)
/-- what the tables say of a class of the machine -/
def am_cls (t : Nat) (q : vw_C) : Prop := (∀ w ∈ u_ws q.1 q.2.1 q.2.2, w ∈ lw_good) ∧ (∀ k, k < q.2.2 → parseFieldDescriptor (q.2.1 k).2.2.1 = some (am_ty t k)) ∧ (∀ a, a < q.2.2 → ∀ b, b < q.2.2 → a ≠ b → (q.2.1 a).2.1 ≠ (q.2.1 b).2.1) ∧ q.2.2 = am_N t
theorem am_cs0 : am_cls 0 (RX0, TX0, 8) := ⟨am_u0, by decide +kernel, nmX0, rfl⟩
theorem am_cs1 : am_cls 1 (RX1, TX1, 8) := ⟨am_u1, by decide +kernel, nmX1, rfl⟩
theorem am_cs2 : am_cls 2 (RX2, TX2, 8) := ⟨am_u2, by decide +kernel, nmX2, rfl⟩
theorem am_cs3 : am_cls 3 (RX3, TX3, 8) := ⟨am_u3, by decide +kernel, nmX3, rfl⟩
theorem am_cs4 : am_cls 4 (RX4, TX4, 8) := ⟨am_u4, by decide +kernel, nmX4, rfl⟩
theorem am_cs5 : am_cls 5 (RX5, TX5, 4) := ⟨am_u5, by decide +kernel, nmX5, rfl⟩
theorem am_cs6 : am_cls 6 (RX6, TX6, 8) := ⟨am_u6, by decide +kernel, nmX6, rfl⟩
theorem am_cs7 : am_cls 7 (RX7, TX7, 5) := ⟨am_u7, by decide +kernel, nmX7, rfl⟩
theorem am_cs8 : am_cls 8 (RX8, TX8, 2) := ⟨am_u8, by decide +kernel, nmX8, rfl⟩
theorem am_cs9 : am_cls 9 (RX9, TX9, 8) := ⟨am_u9, by decide +kernel, nmX9, rfl⟩
theorem am_cs10 : am_cls 10 (RX10, TX10, 8) := ⟨am_u10, by decide +kernel, nmX10, rfl⟩
theorem am_cs11 : am_cls 11 (RX11, TX11, 13) := ⟨am_u11, by decide +kernel, nmX11, rfl⟩
theorem am_cs12 : am_cls 12 (RX12, TX12, 37) := ⟨am_u12, by decide +kernel, nmX12, rfl⟩
theorem am_cls_ok : ∀ (t : Nat) (q : vw_C), vwCl[t]? = some q → am_cls t q := by
  intro t q h
  match t, h with
  | 0, h => cases h; exact am_cs0
  | 1, h => cases h; exact am_cs1
  | 2, h => cases h; exact am_cs2
  | 3, h => cases h; exact am_cs3
  | 4, h => cases h; exact am_cs4
  | 5, h => cases h; exact am_cs5
  | 6, h => cases h; exact am_cs6
  | 7, h => cases h; exact am_cs7
  | 8, h => cases h; exact am_cs8
  | 9, h => cases h; exact am_cs9
  | 10, h => cases h; exact am_cs10
  | 11, h => cases h; exact am_cs11
  | 12, h => cases h; exact am_cs12
  | t + 13, h => simp [vwCl] at h
def am_fck (o : Nat) (e : Nat × Nat × List Nat × String × Nat × Nat) : Bool := e.2.2.1.all fun t => match vwCl[t]? with
  | some q => decide (e.2.1 < q.2.2) && (am_w e.2.2.2.2.1 (.fieldLink (am_R o) e.1 e.2.2.2.1 (q.2.1 e.2.1).2.1 (q.2.1 e.2.1).2.2.1) && (decide (e.2.2.2.1 = (q.2.1 e.2.1).1) || am_w e.2.2.2.2.2 (.sameField e.2.2.2.1 (q.2.1 e.2.1).1 (q.2.1 e.2.1).2.1 (q.2.1 e.2.1).2.2.1)))
  | none => false
theorem am_fck_ok : ∀ o, o < 16 → (am_fl o).all (am_fck o) = true := by decide +kernel
def am_nck (o : Nat) (e : Nat × Nat × List Nat) : Bool := match vwCl[e.2.1]?, e.2.2 with
  | some q, [p1, p2, p3] => am_w p1 (.classLink (am_R o) e.1 q.1) && (am_w p2 (.instantiable q.1 q.2.2) && am_w p3 (.initialized q.1))
  | _, _ => false
theorem am_nck_ok : ∀ o, o < 16 → (am_nwl o).all (am_nck o) = true := by decide +kernel
def am_acn (t : Nat) : String := match t with
  | 22 => RX7
  | 23 => RX5
  | 24 => RX1
  | _ => RX8
def am_ack (o : Nat) (e : Nat × Nat × Nat) : Bool := decide (22 ≤ e.2.1 ∧ e.2.1 < 26) && am_w e.2.2 (.classLink (am_R o) e.1 (am_acn e.2.1))
theorem am_ack_ok : ∀ o, o < 16 → (am_anl o).all (am_ack o) = true := by decide +kernel
theorem am_kck_ok : ∀ o, o < 16 → (am_kl o).all (fun e => am_w e.2.2 (.constant (am_R o) e.1 e.2.1)) = true := by decide +kernel
theorem am_k2ck_ok : ∀ o, o < 16 → (am_kl2 o).all (fun e => am_w e.2.2 (.constantLong (am_R o) e.1 e.2.1)) = true := by decide +kernel
/-- a call's row: the words that its mode wants -/
def am_cck (o : Nat) (e : Nat × Nat × Nat × Nat × List Nat × Mth × List Nat) : Bool := match e with
  | (op, i, mode, n, ts, C, ps) =>
    let y := C.2.1
    let cd := Cond.code y C.2.2.1 C.2.2.2.1 C.2.2.2.2
    let plain := plainName y.cls && decide (y.cls ≠ "java/lang/invoke/MethodHandle" ∧ y.cls ≠ "java/lang/invoke/VarHandle") && decide (y.cls = am_R C.1) && decide (C.1 < 16) && decide (C.2.2.2.1 ≤ 60)
    let par := (parseMethodDescriptor y.desc).map (fun d => d.parameters.length)
    match mode, ps with
    | 0, [p1, p2, p3, p4] => decide (op = 2) && am_w p1 (.methodLink (am_R o) i y) && am_w p2 (.static y) && am_w p3 (.initialized y.cls) && am_w p4 cd && plain && decide (par = some n)
    | 1, [p2, p3, p4] => decide (op = 2) && decide ((o, i) = (8, 25) ∨ (o, i) = (7, 38)) && decide (y = yX11_within) && am_w p2 (.static y) && am_w p3 (.initialized y.cls) && am_w p4 cd && plain && decide (par = some n)
    | 2, [p1, p2, p3, p4, p5] => decide (op = 0) && am_w p1 (.methodLink (am_R o) i y) && am_w p2 (.instanceMethod y) && am_w p3 (.selects y.cls y y) && am_w p4 (.initialized y.cls) && am_w p5 cd && plain && decide (par.map (· + 1) = some n) && ts.all (fun t => decide ((vwCl[t]?).map (fun q => q.1) = some y.cls))
    | 3, p1 :: p2 :: p3 :: p4 :: p5 :: ps => decide (op = 0) && am_w p1 (.methodLink (am_R o) i y) && am_w p2 (.sameMethod y.cls y.cls y.name y.desc) && am_w p3 (.instanceMethod y) && am_w p4 (.initialized y.cls) && am_w p5 cd && plain && decide (par.map (· + 1) = some n) && decide (ts.length = ps.length) && (ts.zip ps).all (fun q => match vwCl[q.1]? with
        | some r => am_w q.2 (.selects r.1 y y)
        | none => false)
    | 4, [p1, p2, p3, p4] => decide (op = 1) && am_w p1 (.methodLink (am_R o) i y) && am_w p2 (.instanceMethod y) && am_w p3 (.initialized y.cls) && am_w p4 cd && plain && decide (y.name = "<init>") && decide (C.2.2.2.2 = none) && decide (par.map (· + 1) = some n)
    | 5, [p1, p2, p3] => decide (op = 1) && am_w p1 (.methodLink (am_R o) i objectInit) && am_w p2 (.instanceMethod objectInit) && am_w p3 (.code objectInit ⟨#[0xb1]⟩ 1 none) && decide (n = 1)
    | 6, [p1, p2, p3, p4] => decide (op = 2) && am_w p1 (.methodLink (am_R o) i Lib.Math.max.name) && am_w p2 (.static Lib.Math.max.name) && am_w p3 (.initialized "java/lang/Math") && am_w p4 (.code Lib.Math.max.name Lib.Math.max.code 2 (some .int)) && decide (n = 2)
    | 7, [p1, p2, p3, p4] => decide (op = 2) && am_w p1 (.methodLink (am_R o) i Lib.Math.min.name) && am_w p2 (.static Lib.Math.min.name) && am_w p3 (.initialized "java/lang/Math") && am_w p4 (.code Lib.Math.min.name Lib.Math.min.code 2 (some .int)) && decide (n = 2)
    | 8, [p1, p2, p3, p4] => decide (op = 2) && am_w p1 (.methodLink (am_R o) i Lib.Math.abs.name) && am_w p2 (.static Lib.Math.abs.name) && am_w p3 (.initialized "java/lang/Math") && am_w p4 (.code Lib.Math.abs.name Lib.Math.abs.code 1 (some .int)) && decide (n = 1)
    | 9, [p1, p2, p3, p4] => decide (op = 2) && am_w p1 (.methodLink (am_R o) i arraycopyName) && am_w p2 (.native arraycopyName) && am_w p3 (.static arraycopyName) && am_w p4 (.initialized "java/lang/System") && decide (n = 5)
    | 10, [] => decide ((o, op, n) = (13, 0, 2)) && decide (C = mX11_toss)
    | 11, [] => decide ((o, op, n) = (13, 2, 4)) && decide (C = mL_element)
    | _, _ => false

theorem am_cq0_0 : am_cl0_0.all (am_cck 0) = true := by decide +kernel
theorem am_cq1_0 : am_cl1_0.all (am_cck 1) = true := by decide +kernel
theorem am_cq1_1 : am_cl1_1.all (am_cck 1) = true := by decide +kernel
theorem am_cq2_0 : am_cl2_0.all (am_cck 2) = true := by decide +kernel
theorem am_cq3_0 : am_cl3_0.all (am_cck 3) = true := by decide +kernel
theorem am_cq4_0 : am_cl4_0.all (am_cck 4) = true := by decide +kernel
theorem am_cq5_0 : am_cl5_0.all (am_cck 5) = true := by decide +kernel
theorem am_cq5_1 : am_cl5_1.all (am_cck 5) = true := by decide +kernel
theorem am_cq6_0 : am_cl6_0.all (am_cck 6) = true := by decide +kernel
theorem am_cq7_0 : am_cl7_0.all (am_cck 7) = true := by decide +kernel
theorem am_cq7_1 : am_cl7_1.all (am_cck 7) = true := by decide +kernel
theorem am_cq7_2 : am_cl7_2.all (am_cck 7) = true := by decide +kernel
theorem am_cq7_3 : am_cl7_3.all (am_cck 7) = true := by decide +kernel
theorem am_cq8_0 : am_cl8_0.all (am_cck 8) = true := by decide +kernel
theorem am_cq9_0 : am_cl9_0.all (am_cck 9) = true := by decide +kernel
theorem am_cq10_0 : am_cl10_0.all (am_cck 10) = true := by decide +kernel
theorem am_cq11_0 : am_cl11_0.all (am_cck 11) = true := by decide +kernel
theorem am_cq11_1 : am_cl11_1.all (am_cck 11) = true := by decide +kernel
theorem am_cq11_2 : am_cl11_2.all (am_cck 11) = true := by decide +kernel
theorem am_cq11_3 : am_cl11_3.all (am_cck 11) = true := by decide +kernel
theorem am_cq11_4 : am_cl11_4.all (am_cck 11) = true := by decide +kernel
theorem am_cq11_5 : am_cl11_5.all (am_cck 11) = true := by decide +kernel
theorem am_cq11_6 : am_cl11_6.all (am_cck 11) = true := by decide +kernel
theorem am_cq11_7 : am_cl11_7.all (am_cck 11) = true := by decide +kernel
theorem am_cq11_8 : am_cl11_8.all (am_cck 11) = true := by decide +kernel
theorem am_cq12_0 : am_cl12_0.all (am_cck 12) = true := by decide +kernel
theorem am_cq12_1 : am_cl12_1.all (am_cck 12) = true := by decide +kernel
theorem am_cq12_2 : am_cl12_2.all (am_cck 12) = true := by decide +kernel
theorem am_cq12_3 : am_cl12_3.all (am_cck 12) = true := by decide +kernel
theorem am_cq12_4 : am_cl12_4.all (am_cck 12) = true := by decide +kernel
theorem am_cq12_5 : am_cl12_5.all (am_cck 12) = true := by decide +kernel
theorem am_cq12_6 : am_cl12_6.all (am_cck 12) = true := by decide +kernel
theorem am_cq12_7 : am_cl12_7.all (am_cck 12) = true := by decide +kernel
theorem am_cq13_0 : am_cl13_0.all (am_cck 13) = true := by decide +kernel
theorem am_cq13_1 : am_cl13_1.all (am_cck 13) = true := by decide +kernel
theorem am_cq13_2 : am_cl13_2.all (am_cck 13) = true := by decide +kernel
theorem am_cq13_3 : am_cl13_3.all (am_cck 13) = true := by decide +kernel
theorem am_cq13_4 : am_cl13_4.all (am_cck 13) = true := by decide +kernel
theorem am_cq13_5 : am_cl13_5.all (am_cck 13) = true := by decide +kernel
theorem am_cq13_6 : am_cl13_6.all (am_cck 13) = true := by decide +kernel
theorem am_cq13_7 : am_cl13_7.all (am_cck 13) = true := by decide +kernel
theorem am_cq13_8 : am_cl13_8.all (am_cck 13) = true := by decide +kernel
theorem am_cq13_9 : am_cl13_9.all (am_cck 13) = true := by decide +kernel
theorem am_cck_ok : ∀ o, (am_cl o).all (am_cck o) = true := by
  intro o
  match o with
  | 0 => simp only [am_cl, List.all_append, Bool.and_eq_true, Bool.and_true]; exact am_cq0_0
  | 1 => simp only [am_cl, List.all_append, Bool.and_eq_true, Bool.and_true]; exact ⟨am_cq1_0, am_cq1_1⟩
  | 2 => simp only [am_cl, List.all_append, Bool.and_eq_true, Bool.and_true]; exact am_cq2_0
  | 3 => simp only [am_cl, List.all_append, Bool.and_eq_true, Bool.and_true]; exact am_cq3_0
  | 4 => simp only [am_cl, List.all_append, Bool.and_eq_true, Bool.and_true]; exact am_cq4_0
  | 5 => simp only [am_cl, List.all_append, Bool.and_eq_true, Bool.and_true]; exact ⟨am_cq5_0, am_cq5_1⟩
  | 6 => simp only [am_cl, List.all_append, Bool.and_eq_true, Bool.and_true]; exact am_cq6_0
  | 7 => simp only [am_cl, List.all_append, Bool.and_eq_true, Bool.and_true]; exact ⟨am_cq7_0, ⟨am_cq7_1, ⟨am_cq7_2, am_cq7_3⟩⟩⟩
  | 8 => simp only [am_cl, List.all_append, Bool.and_eq_true, Bool.and_true]; exact am_cq8_0
  | 9 => simp only [am_cl, List.all_append, Bool.and_eq_true, Bool.and_true]; exact am_cq9_0
  | 10 => simp only [am_cl, List.all_append, Bool.and_eq_true, Bool.and_true]; exact am_cq10_0
  | 11 => simp only [am_cl, List.all_append, Bool.and_eq_true, Bool.and_true]; exact ⟨am_cq11_0, ⟨am_cq11_1, ⟨am_cq11_2, ⟨am_cq11_3, ⟨am_cq11_4, ⟨am_cq11_5, ⟨am_cq11_6, ⟨am_cq11_7, am_cq11_8⟩⟩⟩⟩⟩⟩⟩⟩
  | 12 => simp only [am_cl, List.all_append, Bool.and_eq_true, Bool.and_true]; exact ⟨am_cq12_0, ⟨am_cq12_1, ⟨am_cq12_2, ⟨am_cq12_3, ⟨am_cq12_4, ⟨am_cq12_5, ⟨am_cq12_6, am_cq12_7⟩⟩⟩⟩⟩⟩⟩
  | 13 => simp only [am_cl, List.all_append, Bool.and_eq_true, Bool.and_true]; exact ⟨am_cq13_0, ⟨am_cq13_1, ⟨am_cq13_2, ⟨am_cq13_3, ⟨am_cq13_4, ⟨am_cq13_5, ⟨am_cq13_6, ⟨am_cq13_7, ⟨am_cq13_8, am_cq13_9⟩⟩⟩⟩⟩⟩⟩⟩⟩
  | 14 => rfl
  | 15 => rfl
  | n + 16 => rfl
