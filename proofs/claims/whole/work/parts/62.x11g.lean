/-! rows made, put, copied, looked at (by program: wip/whole/spec_t.py) -/
/-- does the ROW tell TRUST of one HELD? from i on, k more -/
def tl (xs : List Int) (v hd : Int) (i : Int) : Nat → Bool
  | 0 => true
  | k + 1 => if gx xs i = min 20 (v + i * hd) then tl xs v hd (i + 1) k else false
def wsB (xs : List Int) (v f : Int) : Nat → Bool := fun k => tl xs v (sp_holds (k : Int) f) 0 xs.length
def an_was (hw : Nat → Int) (rx : Nat → List Int) (d v f w : Int) : Int :=
  if (0 ≤ d ∧ d ≤ 7) ∧ (0 ≤ v ∧ v ≤ 20) ∧ (0 ≤ f ∧ f ≤ 9) ∧ (0 ≤ w ∧ w ≤ 1) then
    (if hw d.toNat = 2 then (if w = 0 then bt (wsB (rx d.toNat) v f) 0 8 else pop (bt (wsB (rx d.toNat) v f) 0 8).toNat) else why hw d)
  else -1
theorem bt_snoc {p : Nat → Bool} : ∀ (k c : Nat), bt p c (k + 1) = bt p c k + (if p (c + k) then 2 ^ (c + k) else 0)
  | 0, c => by simp [bt]
  | k + 1, c => by
    have h := bt_snoc (p := p) k (c + 1)
    rw [show bt p c (k + 1 + 1) = (if p c then 2 ^ c else 0) + bt p (c + 1) (k + 1) from rfl, h, show bt p c (k + 1) = (if p c then 2 ^ c else 0) + bt p (c + 1) k from rfl, show c + 1 + k = c + (k + 1) by omega]
    omega
/-- a ROW's cell is no KIND's, and no other ROW's -/
theorem row_kind {h : Hp} {a b : Nat} {so k f : Int} {xs : List Int} (W : RowAt h a so xs) (K : KindAt h b k f) : b ≠ a ∧ b ≠ a + 1 ∧ b + 1 ≠ a ∧ b + 1 ≠ a + 1 := by
  have hk : ktag k ≠ 8 ∧ ktag k ≠ 20 := by unfold ktag; repeat' split
                                           all_goals decide
  refine ⟨fun e => ?_, fun e => ?_, fun e => ?_, fun e => ?_⟩
  · have := K.1; rw [e, W.1] at this; exact hk.1 (by injection this with this; injection this with this; exact this.symm)
  · have := K.1; rw [e, W.2.1] at this; exact hk.2 (by injection this with this; injection this with this; exact this.symm)
  · have := K.2.1; rw [e, W.1] at this; cases this
  · have := K.1; rw [show b = a by omega, W.1] at this; exact hk.1 (by injection this with this; injection this with this; exact this.symm)
theorem row_row {h : Hp} {a b : Nat} {so so2 : Int} {xs ys : List Int} (W : RowAt h a so xs) (K : RowAt h b so2 ys) (hne : b ≠ a) : b ≠ a + 1 ∧ b + 1 ≠ a ∧ b + 1 ≠ a + 1 := by
  refine ⟨fun e => ?_, fun e => ?_, fun e => ?_⟩
  · have := K.1; rw [e, W.2.1] at this; cases this
  · have := K.2.1; rw [e, W.1] at this; cases this
  · omega
/-- the elements of the ROW on SHELF d are others now -/
theorem Shv.set {h h1 : Hp} {x y d : Nat} {hw ck cf rs : Nat → Int} {rx : Nat → List Int} {sa : Nat → Nat} {ys : List Int} (V : Shv h x y hw ck cf rs rx sa) (hy : x + 57 ≤ y) (hd : d < 8) (h2 : hw d = 2) (e1 : h1 = am_put h (sa d + 1) (20, ia ys)) (hl : ys.length ≤ 100) (hr : ∀ z ∈ ys, -2147483648 ≤ z ∧ z ≤ 2147483647) : Shv h1 x y hw ck cf rs (fuL rx d ys) sa := by
  subst e1
  obtain ⟨v1, v2, v3, v4⟩ := V
  obtain ⟨s1, s2, s3, s4⟩ := v3 d hd
  have W := s3 h2
  have hya := s4 (by omega)
  refine ⟨(am_pg2 (by omega)).trans v1, (am_pg2 (by omega)).trans v2, fun e he => ?_, v4⟩
  obtain ⟨t1, t2, t3, t4⟩ := v3 e he
  refine ⟨t1, fun z => ?_, fun z => ?_, t4⟩
  · have hx := row_kind W (t2 z)
    exact (t2 z).kept (am_pg2 (by omega)) (am_pg2 (by omega))
  · by_cases q : e = d
    · subst q
      rw [fuL_at]
      exact ⟨(am_pg2 (by omega)).trans W.1, am_pg1 _ _ _, W.2.2.1, hl, hr⟩
    · rw [fuL_ne q]
      have hx := row_row W (t3 z) (v4 e d he hd q z h2)
      exact (t3 z).kept (am_pg2 (by omega)) (am_pg2 (by omega))
theorem mem_set_r {xs : List Int} {i : Nat} {v : Int} (hx : ∀ z ∈ xs, -2147483648 ≤ z ∧ z ≤ 2147483647) (hv : -2147483648 ≤ v ∧ v ≤ 2147483647) : ∀ z ∈ xs.set i v, -2147483648 ≤ z ∧ z ≤ 2147483647 := by
  intro z hz
  rcases List.mem_or_eq_of_mem_set hz with h | h
  · exact hx z h
  · rw [h]; exact hv
theorem cpL_len {xs ys : List Int} {sp dp n : Nat} (h1 : sp + n ≤ xs.length) (h2 : dp + n ≤ ys.length) : (cpL xs ys sp dp n).length = ys.length := by
  simp [cpL]
  omega
theorem cpL_r {xs ys : List Int} {sp dp n : Nat} (hx : ∀ z ∈ xs, -2147483648 ≤ z ∧ z ≤ 2147483647) (hy : ∀ z ∈ ys, -2147483648 ≤ z ∧ z ≤ 2147483647) : ∀ z ∈ cpL xs ys sp dp n, -2147483648 ≤ z ∧ z ≤ 2147483647 := by
  intro z hz
  unfold cpL at hz
  rcases List.mem_append.mp hz with h | h
  · exact hy z (List.mem_of_mem_take h)
  · rcases List.mem_append.mp h with h | h
    · exact hx z (List.mem_of_mem_drop (List.mem_of_mem_take h))
    · exact hy z (List.mem_of_mem_drop h)
theorem x11_row_no {E : am_E} {d : Nat} {h : Hp} {x y : Nat} {hi : Int} {hw ck cf rs : Nat → Int} {rx : Nat → List Int} {sa : Nat → Nat} {a s n : Int}  (Z : Scr h x hi) (V : Shv h x y hw ck cf rs rx sa) (w : WF h) (hB : E.2 ≤ x) (hy : x + 57 ≤ y) (hyh : y ≤ h.2.1) (ha : (-2147483648 ≤ a ∧ a ≤ 2147483647)) (hs : (-2147483648 ≤ s ∧ s ≤ 2147483647)) (hn : (-2147483648 ≤ n ∧ n ≤ 2147483647)) (q : ¬ ok_row a s n)  : Ex E (d + 2) mX11_row 0 [.ref x, .int (i32 a), .int (i32 s), .int (i32 n)] [] h (fun r1 h1 => r1 = some (.int (i32 (-1))) ∧ h1 = h) := by
  obtain ⟨⟨bs, z0⟩, z1, z2⟩ := id Z
  obtain ⟨v1, v2, v3, v4⟩ := id V
  unfold ok_row at q
  refine Ex_iload_n dX11_row_0 rfl rfl ?_
  refine Ex_stat 0 dX11_row_1 rfl rfl (Or.inl rfl) rfl rfl rfl rfl rfl rfl (Ex_post (x11_isShelf (by omega)) ?_)
  rintro _ _ ⟨rfl, e0⟩
  obtain rfl := Eq.symm e0
  refine Ex_if_eq (t := 22) dX11_row_4 rfl rfl (by omega) (fun c4 => ?_) (fun c4 => ?_)
  · refine Ex_iconst dX11_row_22 rfl ?_
    refine Ex_iret dX11_row_23 rfl rfl ?_
    exact ⟨rfl, rfl⟩
  · refine Ex_iload_n dX11_row_7 rfl rfl ?_
    refine Ex_iconst dX11_row_8 rfl ?_
    refine Ex_iconst dX11_row_9 rfl ?_
    refine Ex_stat 0 dX11_row_10 rfl rfl (Or.inl rfl) rfl rfl rfl rfl rfl rfl (Ex_post (x11_within (by omega)) ?_)
    rintro _ _ ⟨rfl, e0⟩
    obtain rfl := Eq.symm e0
    refine Ex_if_eq (t := 22) dX11_row_13 rfl rfl (by omega) (fun c13 => ?_) (fun c13 => ?_)
    · refine Ex_iconst dX11_row_22 rfl ?_
      refine Ex_iret dX11_row_23 rfl rfl ?_
      exact ⟨rfl, rfl⟩
    · refine Ex_iload_n dX11_row_16 rfl rfl ?_
      refine Ex_bipush dX11_row_17 rfl (by decide) ?_
      refine Ex_icmp_le (t := 24) dX11_row_19 rfl rfl (by omega) (fun c19 => ?_) (fun c19 => ?_)
      · exfalso; omega
      · refine Ex_iconst dX11_row_22 rfl ?_
        refine Ex_iret dX11_row_23 rfl rfl ?_
        exact ⟨rfl, rfl⟩
theorem x11_row_neg {E : am_E} {d : Nat} {h : Hp} {x y : Nat} {hi : Int} {hw ck cf rs : Nat → Int} {rx : Nat → List Int} {sa : Nat → Nat} {a s n : Int}  (Z : Scr h x hi) (V : Shv h x y hw ck cf rs rx sa) (w : WF h) (hB : E.2 ≤ x) (hy : x + 57 ≤ y) (hyh : y ≤ h.2.1) (ha : (-2147483648 ≤ a ∧ a ≤ 2147483647)) (hs : (-2147483648 ≤ s ∧ s ≤ 2147483647)) (hn : (-2147483648 ≤ n ∧ n ≤ 2147483647)) (q : ok_row a s n) (hn0 : n < 0)  : Ex E (d + 2) mX11_row 0 [.ref x, .int (i32 a), .int (i32 s), .int (i32 n)] [] h (fun r1 h1 => r1 = some (.int (i32 (-14))) ∧ h1 = h) := by
  obtain ⟨⟨bs, z0⟩, z1, z2⟩ := id Z
  obtain ⟨v1, v2, v3, v4⟩ := id V
  unfold ok_row at q
  refine Ex_iload_n dX11_row_0 rfl rfl ?_
  refine Ex_stat 0 dX11_row_1 rfl rfl (Or.inl rfl) rfl rfl rfl rfl rfl rfl (Ex_post (x11_isShelf (by omega)) ?_)
  rintro _ _ ⟨rfl, e0⟩
  obtain rfl := Eq.symm e0
  refine Ex_if_eq (t := 22) dX11_row_4 rfl rfl (by omega) (fun c4 => absurd c4 (by omega)) (fun c4 => ?_)
  refine Ex_iload_n dX11_row_7 rfl rfl ?_
  refine Ex_iconst dX11_row_8 rfl ?_
  refine Ex_iconst dX11_row_9 rfl ?_
  refine Ex_stat 0 dX11_row_10 rfl rfl (Or.inl rfl) rfl rfl rfl rfl rfl rfl (Ex_post (x11_within (by omega)) ?_)
  rintro _ _ ⟨rfl, e0⟩
  obtain rfl := Eq.symm e0
  refine Ex_if_eq (t := 22) dX11_row_13 rfl rfl (by omega) (fun c13 => absurd c13 (by omega)) (fun c13 => ?_)
  refine Ex_iload_n dX11_row_16 rfl rfl ?_
  refine Ex_bipush dX11_row_17 rfl (by decide) ?_
  refine Ex_icmp_le (t := 24) dX11_row_19 rfl rfl (by omega) (fun c19 => ?_) (fun c19 => absurd c19 (by omega))
  refine Ex_iload_n dX11_row_24 rfl rfl ?_
  refine Ex_if_ge (t := 31) dX11_row_25 rfl rfl (by omega) (fun c25 => absurd c25 (by omega)) (fun c25 => ?_)
  refine Ex_bipush dX11_row_28 rfl (by decide) ?_
  refine Ex_iret dX11_row_30 rfl rfl ?_
  exact ⟨rfl, rfl⟩
theorem x11_row_yes {E : am_E} {d : Nat} {h : Hp} {x y : Nat} {hi : Int} {hw ck cf rs : Nat → Int} {rx : Nat → List Int} {sa : Nat → Nat} {a s n : Int}  (Z : Scr h x hi) (V : Shv h x y hw ck cf rs rx sa) (w : WF h) (hB : E.2 ≤ x) (hy : x + 57 ≤ y) (hyh : y ≤ h.2.1) (ha : (-2147483648 ≤ a ∧ a ≤ 2147483647)) (hs : (-2147483648 ≤ s ∧ s ≤ 2147483647)) (hn : (-2147483648 ≤ n ∧ n ≤ 2147483647)) (q : ok_row a s n) (hn0 : 0 ≤ n)  : Ex E (d + 2) mX11_row 0 [.ref x, .int (i32 a), .int (i32 s), .int (i32 n)] [] h (fun r1 h1 => r1 = some (.int (i32 0)) ∧ (∃ sa2, Shv h1 x y (fu hw a.toNat 2) ck cf (fu rs a.toNat s) (fuL rx a.toNat (List.replicate n.toNat 0)) sa2) ∧ Gr h h1 (x + 6) (x + 8) 2 102) := by
  obtain ⟨⟨bs, z0⟩, z1, z2⟩ := id Z
  obtain ⟨v1, v2, v3, v4⟩ := id V
  unfold ok_row at q
  obtain ⟨d0, rfl⟩ := Int.eq_ofNat_of_zero_le q.1.1.1
  have hd8 : d0 < 8 := by omega
  refine Ex_iload_n dX11_row_0 rfl rfl ?_
  refine Ex_stat 0 dX11_row_1 rfl rfl (Or.inl rfl) rfl rfl rfl rfl rfl rfl (Ex_post (x11_isShelf (by omega)) ?_)
  rintro _ _ ⟨rfl, e0⟩
  obtain rfl := Eq.symm e0
  refine Ex_if_eq (t := 22) dX11_row_4 rfl rfl (by omega) (fun c4 => absurd c4 (by omega)) (fun c4 => ?_)
  refine Ex_iload_n dX11_row_7 rfl rfl ?_
  refine Ex_iconst dX11_row_8 rfl ?_
  refine Ex_iconst dX11_row_9 rfl ?_
  refine Ex_stat 0 dX11_row_10 rfl rfl (Or.inl rfl) rfl rfl rfl rfl rfl rfl (Ex_post (x11_within (by omega)) ?_)
  rintro _ _ ⟨rfl, e0⟩
  obtain rfl := Eq.symm e0
  refine Ex_if_eq (t := 22) dX11_row_13 rfl rfl (by omega) (fun c13 => absurd c13 (by omega)) (fun c13 => ?_)
  refine Ex_iload_n dX11_row_16 rfl rfl ?_
  refine Ex_bipush dX11_row_17 rfl (by decide) ?_
  refine Ex_icmp_le (t := 24) dX11_row_19 rfl rfl (by omega) (fun c19 => ?_) (fun c19 => absurd c19 (by omega))
  refine Ex_iload_n dX11_row_24 rfl rfl ?_
  refine Ex_if_ge (t := 31) dX11_row_25 rfl rfl (by omega) (fun c25 => ?_) (fun c25 => absurd c25 (by omega))
  refine Ex_aload_n dX11_row_31 rfl rfl ?_
  refine Ex_getf dX11_row_32 rfl z0 rfl rfl rfl ?_
  refine Ex_iload_n dX11_row_35 rfl rfl ?_
  refine Ex_null dX11_row_36 rfl ?_
  refine Ex_aastN dX11_row_37 rfl v1 (by omega) (by omega) (by simp; omega) (by omega) (va8_set hd8) ?_
  refine Ex_aload_n dX11_row_38 rfl rfl ?_
  refine Ex_getf dX11_row_39 rfl ((am_pg2 (by omega)).trans z0) rfl rfl rfl ?_
  refine Ex_iload_n dX11_row_42 rfl rfl ?_
  refine Ex_new dX11_row_43 rfl rfl rfl rfl ?_
  refine Ex_dup dX11_row_46 rfl rfl ?_
  refine Ex_iload_n dX11_row_47 rfl rfl ?_
  refine Ex_iload_n dX11_row_48 rfl rfl ?_
  refine Ex_spec dX11_row_49 rfl rfl rfl rfl rfl rfl rfl rfl (Ex_post (x8_init (a := h.2.1) (by rw [am_ng]; exact if_pos rfl) (by omega) rfl q.1.2 (by omega)) ?_)
  rintro _ h3 ⟨rfl, W3, e3, q3⟩
  refine Ex_aast dX11_row_52 rfl ((q3 _ (by show x + 7 ≠ h.2.1; omega) (by show x + 7 ≠ h.2.1 + 1; omega)).trans (by rw [am_ng, if_neg (by show x + 7 ≠ h.2.1; omega), am_pg2 (by omega)]; exact v2)) W3.1 (by omega) rfl (by omega) (by simp; omega) (by omega) (va8_set hd8) ?_
  refine Ex_iconst dX11_row_53 rfl ?_
  refine Ex_iret dX11_row_54 rfl rfl ?_
  have f1 : Fr h (am_put h (x + 6) (24, va8 (fuV (kv hw sa) d0 .null))) (x + 6) (x + 8) := Fr.put _ (by omega)
  have g1 := f1.gr w (by omega) 0 0
  have n3 : h3.2.1 = h.2.1 + 2 := by first | (rw [e3]; done) | (rw [e3]; rfl)
  have n4 : h3.2.2 = h.2.2 + 2 + n.toNat := by first | (rw [e3]; done) | (rw [e3]; rfl)
  have q3' : ∀ q, q ≠ h.2.1 → q ≠ h.2.1 + 1 → h3.1 q = (am_put h (x + 6) (24, va8 (fuV (kv hw sa) d0 .null))).1 q := fun q h1 h2 => (q3 q h1 h2).trans (by rw [am_ng, if_neg (by exact h1)]; rfl)
  have g2 : Gr (am_put h (x + 6) (24, va8 (fuV (kv hw sa) d0 .null))) h3 (x + 6) (x + 8) 2 102 := by
    refine ⟨by rw [n3, n4]; show h.2.1 ≤ h.2.1 + 2 ∧ h.2.1 + 2 ≤ h.2.1 + 2 ∧ h.2.2 ≤ h.2.2 + 2 + n.toNat ∧ h.2.2 + 2 + n.toNat ≤ h.2.2 + 102; omega, fun q z => ?_, fun q v _ z => ?_⟩
    · rw [n3] at z
      rw [q3' q (by omega) (by omega)]
      exact g1.2.1 q (by show h.2.1 ≤ q; omega)
    · have hl : q < h.2.1 := g1.2.1.lt z
      exact (q3' q (by omega) (by omega)).trans z
  have f4 : Fr h3 (am_put h3 (x + 7) (25, va8 (fuV (rv hw sa) d0 (.ref h.2.1)))) (x + 6) (x + 8) := Fr.put _ (by omega)
  have g3 := f4.gr g2.2.1 (by omega) 0 0
  have g4 : Gr h (am_put h3 (x + 7) (25, va8 (fuV (rv hw sa) d0 (.ref h.2.1)))) (x + 6) (x + 8) 2 102 := ((g1.trans g2).trans g3).wide (Nat.le_refl _) (Nat.le_refl _) (by omega) (by omega)
  have eV := Shv.upd (w := 2) (a := h.2.1) (ck1 := ck d0) (cf1 := cf d0) (rs1 := s) (rx1 := List.replicate n.toNat 0) V g4 hy hd8 (by rw [if_neg (by decide)]; exact (am_pg2 (by omega)).trans ((q3' _ (by omega) (by omega)).trans (am_pg1 _ _ _))) (by rw [if_pos rfl]; exact am_pg1 _ _ _) (by decide) (fun z => absurd z (by decide)) (fun _ => ⟨W3.kept (am_pg2 (by show h.2.1 ≠ _; omega)) (am_pg2 (by show h.2.1 + 1 ≠ _; omega)), fun e he he2 => by have hr := (v3 e he).2.2.1 he2; have := w.lt hr.1; omega⟩) (fun _ => hyh)
  rw [fu_same, fu_same] at eV
  exact ⟨rfl, ⟨_, eV⟩, g4⟩
theorem x11_put_why {E : am_E} {d : Nat} {h : Hp} {x y : Nat} {hi : Int} {hw ck cf rs : Nat → Int} {rx : Nat → List Int} {sa : Nat → Nat} {a i v : Int}  (Z : Scr h x hi) (V : Shv h x y hw ck cf rs rx sa) (w : WF h) (hB : E.2 ≤ x) (hy : x + 57 ≤ y) (hyh : y ≤ h.2.1) (ha : (-2147483648 ≤ a ∧ a ≤ 2147483647)) (hi : (-2147483648 ≤ i ∧ i ≤ 2147483647)) (hv : (-2147483648 ≤ v ∧ v ≤ 2147483647)) (q : ¬ ((0 ≤ a ∧ a ≤ 7) ∧ hw a.toNat = 2))  : Ex E (d + 5) mX11_put 0 [.ref x, .int (i32 a), .int (i32 i), .int (i32 v), .retAddr 0] [] h (fun r1 h1 => r1 = some (.int (i32 (why hw a))) ∧ h1 = h) := by
  obtain ⟨⟨bs, z0⟩, z1, z2⟩ := id Z
  obtain ⟨v1, v2, v3, v4⟩ := id V
  refine Ex_aload_n dX11_put_0 rfl rfl ?_
  refine Ex_iload_n dX11_put_1 rfl rfl ?_
  refine Ex_inv 2 dX11_put_2 rfl rfl (Or.inl rfl) rfl rfl rfl rfl z0 rfl rfl rfl (Ex_post (x11_rowOn Z V (by omega)) ?_)
  rintro _ _ ⟨rfl, e0⟩
  obtain rfl := Eq.symm e0
  rw [row_none q]
  refine Ex_astoreN (L2 := [_, _, _, _, _]) dX11_put_5 rfl rfl rfl ?_
  refine Ex_aloadN dX11_put_7 rfl rfl ?_
  refine Ex_ifnonnullN (t := 18) dX11_put_9 rfl rfl ?_
  refine Ex_aload_n dX11_put_12 rfl rfl ?_
  refine Ex_iload_n dX11_put_13 rfl rfl ?_
  refine Ex_inv 2 dX11_put_14 rfl rfl (Or.inl rfl) rfl rfl rfl rfl z0 rfl rfl rfl (Ex_post (x11_whyNot Z V (by omega)) ?_)
  rintro _ _ ⟨rfl, e0⟩
  obtain rfl := Eq.symm e0
  refine Ex_iret dX11_put_17 rfl rfl ?_
  exact ⟨rfl, rfl⟩
theorem x11_put_no {E : am_E} {d : Nat} {h : Hp} {x y : Nat} {hi : Int} {hw ck cf rs : Nat → Int} {rx : Nat → List Int} {sa : Nat → Nat} {a i v : Int}  (Z : Scr h x hi) (V : Shv h x y hw ck cf rs rx sa) (w : WF h) (hB : E.2 ≤ x) (hy : x + 57 ≤ y) (hyh : y ≤ h.2.1) (ha : (-2147483648 ≤ a ∧ a ≤ 2147483647)) (hi : (-2147483648 ≤ i ∧ i ≤ 2147483647)) (hv : (-2147483648 ≤ v ∧ v ≤ 2147483647)) (q : (0 ≤ a ∧ a ≤ 7) ∧ hw a.toNat = 2) (q2 : ¬ (0 ≤ i ∧ i < ((rx a.toNat).length : Int)))  : Ex E (d + 5) mX11_put 0 [.ref x, .int (i32 a), .int (i32 i), .int (i32 v), .retAddr 0] [] h (fun r1 h1 => r1 = some (.int (i32 (-13))) ∧ h1 = h) := by
  obtain ⟨⟨bs, z0⟩, z1, z2⟩ := id Z
  obtain ⟨v1, v2, v3, v4⟩ := id V
  obtain ⟨W, hya⟩ := V.row q
  have w1 := W.1
  refine Ex_aload_n dX11_put_0 rfl rfl ?_
  refine Ex_iload_n dX11_put_1 rfl rfl ?_
  refine Ex_inv 2 dX11_put_2 rfl rfl (Or.inl rfl) rfl rfl rfl rfl z0 rfl rfl rfl (Ex_post (x11_rowOn Z V (by omega)) ?_)
  rintro _ _ ⟨rfl, e0⟩
  obtain rfl := Eq.symm e0
  rw [row_some q]
  refine Ex_astore (L2 := [_, _, _, _, _]) dX11_put_5 rfl rfl rfl ?_
  refine Ex_aload dX11_put_7 rfl rfl ?_
  refine Ex_ifnonnull (t := 18) dX11_put_9 rfl rfl ?_
  refine Ex_aload dX11_put_18 rfl rfl ?_
  refine Ex_iload_n dX11_put_20 rfl rfl ?_
  refine Ex_inv 2 dX11_put_21 rfl rfl (Or.inl rfl) rfl rfl rfl rfl w1 rfl rfl rfl (Ex_post (x8_has W (by omega)) ?_)
  rintro _ _ ⟨rfl, e0⟩
  obtain rfl := Eq.symm e0
  refine Ex_if_ne (t := 30) dX11_put_24 rfl rfl (by omega) (fun c24 => absurd c24 (by omega)) (fun c24 => ?_)
  refine Ex_bipush dX11_put_27 rfl (by decide) ?_
  refine Ex_iret dX11_put_29 rfl rfl ?_
  exact ⟨rfl, rfl⟩
theorem x11_put_yes {E : am_E} {d : Nat} {h : Hp} {x y : Nat} {hi : Int} {hw ck cf rs : Nat → Int} {rx : Nat → List Int} {sa : Nat → Nat} {a i v : Int}  (Z : Scr h x hi) (V : Shv h x y hw ck cf rs rx sa) (w : WF h) (hB : E.2 ≤ x) (hy : x + 57 ≤ y) (hyh : y ≤ h.2.1) (ha : (-2147483648 ≤ a ∧ a ≤ 2147483647)) (hi : (-2147483648 ≤ i ∧ i ≤ 2147483647)) (hv : (-2147483648 ≤ v ∧ v ≤ 2147483647)) (q : (0 ≤ a ∧ a ≤ 7) ∧ hw a.toNat = 2) (q2 : (0 ≤ i ∧ i < ((rx a.toNat).length : Int)))  : Ex E (d + 5) mX11_put 0 [.ref x, .int (i32 a), .int (i32 i), .int (i32 v), .retAddr 0] [] h (fun r1 h1 => r1 = some (.int (i32 0)) ∧ Shv h1 x y hw ck cf rs (fuL rx a.toNat ((rx a.toNat).set i.toNat (nrw (rs a.toNat) v))) sa ∧ Fr h h1 (sa a.toNat + 1) (sa a.toNat + 2) ∧ y ≤ sa a.toNat) := by
  obtain ⟨⟨bs, z0⟩, z1, z2⟩ := id Z
  obtain ⟨v1, v2, v3, v4⟩ := id V
  obtain ⟨W, hya⟩ := V.row q
  have w1 := W.1
  refine Ex_aload_n dX11_put_0 rfl rfl ?_
  refine Ex_iload_n dX11_put_1 rfl rfl ?_
  refine Ex_inv 2 dX11_put_2 rfl rfl (Or.inl rfl) rfl rfl rfl rfl z0 rfl rfl rfl (Ex_post (x11_rowOn Z V (by omega)) ?_)
  rintro _ _ ⟨rfl, e0⟩
  obtain rfl := Eq.symm e0
  rw [row_some q]
  refine Ex_astore (L2 := [_, _, _, _, _]) dX11_put_5 rfl rfl rfl ?_
  refine Ex_aload dX11_put_7 rfl rfl ?_
  refine Ex_ifnonnull (t := 18) dX11_put_9 rfl rfl ?_
  refine Ex_aload dX11_put_18 rfl rfl ?_
  refine Ex_iload_n dX11_put_20 rfl rfl ?_
  refine Ex_inv 2 dX11_put_21 rfl rfl (Or.inl rfl) rfl rfl rfl rfl w1 rfl rfl rfl (Ex_post (x8_has W (by omega)) ?_)
  rintro _ _ ⟨rfl, e0⟩
  obtain rfl := Eq.symm e0
  refine Ex_if_ne (t := 30) dX11_put_24 rfl rfl (by omega) (fun c24 => ?_) (fun c24 => absurd c24 (by omega))
  refine Ex_aload dX11_put_30 rfl rfl ?_
  refine Ex_iload_n dX11_put_32 rfl rfl ?_
  refine Ex_iload_n dX11_put_33 rfl rfl ?_
  refine Ex_inv 2 dX11_put_34 rfl rfl (Or.inl rfl) rfl rfl rfl rfl w1 rfl rfl rfl (Ex_post (x8_set W (by omega) q2) ?_)
  rintro _ _ ⟨rfl, rfl⟩
  refine Ex_iconst dX11_put_37 rfl ?_
  refine Ex_iret dX11_put_38 rfl rfl ?_
  exact ⟨rfl, V.set hy (by omega) q.2 rfl (by rw [List.length_set]; exact W.2.2.2.1) (mem_set_r W.2.2.2.2 (nrw_r hv)), Fr.put _ (by omega), hya⟩
theorem x11_copy_1 {E : am_E} {d : Nat} {h : Hp} {x y : Nat} {hi : Int} {hw ck cf rs : Nat → Int} {rx : Nat → List Int} {sa : Nat → Nat} {a i b j n : Int}  (Z : Scr h x hi) (V : Shv h x y hw ck cf rs rx sa) (w : WF h) (hB : E.2 ≤ x) (hy : x + 57 ≤ y) (hyh : y ≤ h.2.1) (ha : (-2147483648 ≤ a ∧ a ≤ 2147483647)) (hi : (-2147483648 ≤ i ∧ i ≤ 2147483647)) (hb : (-2147483648 ≤ b ∧ b ≤ 2147483647)) (hj : (-2147483648 ≤ j ∧ j ≤ 2147483647)) (hn : (-2147483648 ≤ n ∧ n ≤ 2147483647)) (q : ¬ ((0 ≤ a ∧ a ≤ 7) ∧ (0 ≤ b ∧ b ≤ 7)))  : Ex E (d + 4) mX11_copy 0 [.ref x, .int (i32 a), .int (i32 i), .int (i32 b), .int (i32 j), .int (i32 n), .retAddr 0, .retAddr 0] [] h (fun r1 h1 => r1 = some (.int (i32 (-1))) ∧ h1 = h) := by
  obtain ⟨⟨bs, z0⟩, z1, z2⟩ := id Z
  obtain ⟨v1, v2, v3, v4⟩ := id V
  refine Ex_iload_n dX11_copy_0 rfl rfl ?_
  refine Ex_stat 0 dX11_copy_1 rfl rfl (Or.inl rfl) rfl rfl rfl rfl rfl rfl (Ex_post (x11_isShelf (by omega)) ?_)
  rintro _ _ ⟨rfl, e0⟩
  obtain rfl := Eq.symm e0
  refine Ex_if_eq (t := 14) dX11_copy_4 rfl rfl (by omega) (fun c4 => ?_) (fun c4 => ?_)
  · refine Ex_iconst dX11_copy_14 rfl ?_
    refine Ex_iret dX11_copy_15 rfl rfl ?_
    exact ⟨rfl, rfl⟩
  · refine Ex_iload_n dX11_copy_7 rfl rfl ?_
    refine Ex_stat 0 dX11_copy_8 rfl rfl (Or.inl rfl) rfl rfl rfl rfl rfl rfl (Ex_post (x11_isShelf (by omega)) ?_)
    rintro _ _ ⟨rfl, e0⟩
    obtain rfl := Eq.symm e0
    refine Ex_if_ne (t := 16) dX11_copy_11 rfl rfl (by omega) (fun c11 => ?_) (fun c11 => ?_)
    · exfalso; omega
    · refine Ex_iconst dX11_copy_14 rfl ?_
      refine Ex_iret dX11_copy_15 rfl rfl ?_
      exact ⟨rfl, rfl⟩
theorem x11_copy_11 {E : am_E} {d : Nat} {h : Hp} {x y : Nat} {hi : Int} {hw ck cf rs : Nat → Int} {rx : Nat → List Int} {sa : Nat → Nat} {a i b j n : Int}  (Z : Scr h x hi) (V : Shv h x y hw ck cf rs rx sa) (w : WF h) (hB : E.2 ≤ x) (hy : x + 57 ≤ y) (hyh : y ≤ h.2.1) (ha : (-2147483648 ≤ a ∧ a ≤ 2147483647)) (hi : (-2147483648 ≤ i ∧ i ≤ 2147483647)) (hb : (-2147483648 ≤ b ∧ b ≤ 2147483647)) (hj : (-2147483648 ≤ j ∧ j ≤ 2147483647)) (hn : (-2147483648 ≤ n ∧ n ≤ 2147483647)) (q : (0 ≤ a ∧ a ≤ 7) ∧ (0 ≤ b ∧ b ≤ 7)) (q1 : hw a.toNat = 0 ∨ hw b.toNat = 0)  : Ex E (d + 4) mX11_copy 0 [.ref x, .int (i32 a), .int (i32 i), .int (i32 b), .int (i32 j), .int (i32 n), .retAddr 0, .retAddr 0] [] h (fun r1 h1 => r1 = some (.int (i32 (-11))) ∧ h1 = h) := by
  obtain ⟨⟨bs, z0⟩, z1, z2⟩ := id Z
  obtain ⟨v1, v2, v3, v4⟩ := id V
  obtain ⟨d, rfl⟩ := Int.eq_ofNat_of_zero_le q.1.1
  obtain ⟨e, rfl⟩ := Int.eq_ofNat_of_zero_le q.2.1
  have hd8 : d < 8 := by omega
  have he8 : e < 8 := by omega
  have q1 : hw d = 0 ∨ hw e = 0 := q1
  refine Ex_iload_n dX11_copy_0 rfl rfl ?_
  refine Ex_stat 0 dX11_copy_1 rfl rfl (Or.inl rfl) rfl rfl rfl rfl rfl rfl (Ex_post (x11_isShelf (by omega)) ?_)
  rintro _ _ ⟨rfl, e0⟩
  obtain rfl := Eq.symm e0
  refine Ex_if_eq (t := 14) dX11_copy_4 rfl rfl (by omega) (fun c4 => absurd c4 (by omega)) (fun c4 => ?_)
  refine Ex_iload_n dX11_copy_7 rfl rfl ?_
  refine Ex_stat 0 dX11_copy_8 rfl rfl (Or.inl rfl) rfl rfl rfl rfl rfl rfl (Ex_post (x11_isShelf (by omega)) ?_)
  rintro _ _ ⟨rfl, e0⟩
  obtain rfl := Eq.symm e0
  refine Ex_if_ne (t := 16) dX11_copy_11 rfl rfl (by omega) (fun c11 => ?_) (fun c11 => absurd c11 (by omega))
  refine Ex_aload_n dX11_copy_16 rfl rfl ?_
  refine Ex_iload_n dX11_copy_17 rfl rfl ?_
  refine Ex_inv 2 dX11_copy_18 rfl rfl (Or.inl rfl) rfl rfl rfl rfl z0 rfl rfl rfl (Ex_post (x11_isEmpty (d0 := d) Z V hd8) ?_)
  rintro _ _ ⟨rfl, e0⟩
  obtain rfl := Eq.symm e0
  refine Ex_if_ne (t := 32) dX11_copy_21 rfl rfl (by split <;> omega) (fun c21 => ?_) (fun c21 => ?_)
  · refine Ex_bipush dX11_copy_32 rfl (by decide) ?_
    refine Ex_iret dX11_copy_34 rfl rfl ?_
    exact ⟨rfl, rfl⟩
  · refine Ex_aload_n dX11_copy_24 rfl rfl ?_
    refine Ex_iload_n dX11_copy_25 rfl rfl ?_
    refine Ex_inv 2 dX11_copy_26 rfl rfl (Or.inl rfl) rfl rfl rfl rfl z0 rfl rfl rfl (Ex_post (x11_isEmpty (d0 := e) Z V he8) ?_)
    rintro _ _ ⟨rfl, e0⟩
    obtain rfl := Eq.symm e0
    refine Ex_if_eq (t := 35) dX11_copy_29 rfl rfl (by split <;> omega) (fun c29 => ?_) (fun c29 => ?_)
    · exfalso
      rcases q1 with q1 | q1
      · rw [if_pos q1] at c21; omega
      · rw [if_pos q1] at c29; omega
    · refine Ex_bipush dX11_copy_32 rfl (by decide) ?_
      refine Ex_iret dX11_copy_34 rfl rfl ?_
      exact ⟨rfl, rfl⟩
theorem x11_copy_12 {E : am_E} {d : Nat} {h : Hp} {x y : Nat} {hi : Int} {hw ck cf rs : Nat → Int} {rx : Nat → List Int} {sa : Nat → Nat} {a i b j n : Int}  (Z : Scr h x hi) (V : Shv h x y hw ck cf rs rx sa) (w : WF h) (hB : E.2 ≤ x) (hy : x + 57 ≤ y) (hyh : y ≤ h.2.1) (ha : (-2147483648 ≤ a ∧ a ≤ 2147483647)) (hi : (-2147483648 ≤ i ∧ i ≤ 2147483647)) (hb : (-2147483648 ≤ b ∧ b ≤ 2147483647)) (hj : (-2147483648 ≤ j ∧ j ≤ 2147483647)) (hn : (-2147483648 ≤ n ∧ n ≤ 2147483647)) (q : (0 ≤ a ∧ a ≤ 7) ∧ (0 ≤ b ∧ b ≤ 7)) (q1 : ¬ (hw a.toNat = 0 ∨ hw b.toNat = 0)) (q2 : ¬ (hw a.toNat = 2 ∧ hw b.toNat = 2 ∧ rs a.toNat = rs b.toNat))  : Ex E (d + 4) mX11_copy 0 [.ref x, .int (i32 a), .int (i32 i), .int (i32 b), .int (i32 j), .int (i32 n), .retAddr 0, .retAddr 0] [] h (fun r1 h1 => r1 = some (.int (i32 (-12))) ∧ h1 = h) := by
  obtain ⟨⟨bs, z0⟩, z1, z2⟩ := id Z
  obtain ⟨v1, v2, v3, v4⟩ := id V
  obtain ⟨d, rfl⟩ := Int.eq_ofNat_of_zero_le q.1.1
  obtain ⟨e, rfl⟩ := Int.eq_ofNat_of_zero_le q.2.1
  have hd8 : d < 8 := by omega
  have he8 : e < 8 := by omega
  have q1 : ¬ hw d = 0 ∧ ¬ hw e = 0 := ⟨fun z => q1 (Or.inl z), fun z => q1 (Or.inr z)⟩
  have q2 : ¬ (hw d = 2 ∧ hw e = 2 ∧ rs d = rs e) := q2
  by_cases p1 : hw d = 2
  by_cases p2 : hw e = 2
  · obtain ⟨W1, hya1⟩ := V.row (d := (d : Int)) ⟨q.1, p1⟩
    have W1 : RowAt h (sa d) (rs d) (rx d) := W1
    have hya1 : y ≤ sa d := hya1
    obtain ⟨w11, w12, w13, w14, w15⟩ := id W1
    obtain ⟨W2, hya2⟩ := V.row (d := (e : Int)) ⟨q.2, p2⟩
    have W2 : RowAt h (sa e) (rs e) (rx e) := W2
    have hya2 : y ≤ sa e := hya2
    obtain ⟨w21, w22, w23, w24, w25⟩ := id W2
    have p3 : ¬ rs d = rs e := fun z => q2 ⟨p1, p2, z⟩
    refine Ex_iload_n dX11_copy_0 rfl rfl ?_
    refine Ex_stat 0 dX11_copy_1 rfl rfl (Or.inl rfl) rfl rfl rfl rfl rfl rfl (Ex_post (x11_isShelf (by omega)) ?_)
    rintro _ _ ⟨rfl, e0⟩
    obtain rfl := Eq.symm e0
    refine Ex_if_eq (t := 14) dX11_copy_4 rfl rfl (by omega) (fun c4 => absurd c4 (by omega)) (fun c4 => ?_)
    refine Ex_iload_n dX11_copy_7 rfl rfl ?_
    refine Ex_stat 0 dX11_copy_8 rfl rfl (Or.inl rfl) rfl rfl rfl rfl rfl rfl (Ex_post (x11_isShelf (by omega)) ?_)
    rintro _ _ ⟨rfl, e0⟩
    obtain rfl := Eq.symm e0
    refine Ex_if_ne (t := 16) dX11_copy_11 rfl rfl (by omega) (fun c11 => ?_) (fun c11 => absurd c11 (by omega))
    refine Ex_aload_n dX11_copy_16 rfl rfl ?_
    refine Ex_iload_n dX11_copy_17 rfl rfl ?_
    refine Ex_inv 2 dX11_copy_18 rfl rfl (Or.inl rfl) rfl rfl rfl rfl z0 rfl rfl rfl (Ex_post (x11_isEmpty (d0 := d) Z V hd8) ?_)
    rintro _ _ ⟨rfl, e0⟩
    obtain rfl := Eq.symm e0
    refine Ex_if_ne (t := 32) dX11_copy_21 rfl rfl (by split <;> omega) (fun c21 => absurd c21 (by first | omega | (rw [if_neg q1.1] at c21; omega))) (fun c21 => ?_)
    refine Ex_aload_n dX11_copy_24 rfl rfl ?_
    refine Ex_iload_n dX11_copy_25 rfl rfl ?_
    refine Ex_inv 2 dX11_copy_26 rfl rfl (Or.inl rfl) rfl rfl rfl rfl z0 rfl rfl rfl (Ex_post (x11_isEmpty (d0 := e) Z V he8) ?_)
    rintro _ _ ⟨rfl, e0⟩
    obtain rfl := Eq.symm e0
    refine Ex_if_eq (t := 35) dX11_copy_29 rfl rfl (by split <;> omega) (fun c29 => ?_) (fun c29 => absurd c29 (by first | omega | (rw [if_neg q1.2] at c29; omega)))
    refine Ex_aload_n dX11_copy_35 rfl rfl ?_
    refine Ex_iload_n dX11_copy_36 rfl rfl ?_
    refine Ex_inv 2 dX11_copy_37 rfl rfl (Or.inl rfl) rfl rfl rfl rfl z0 rfl rfl rfl (Ex_post (x11_rowOn Z V (by omega)) ?_)
    rintro _ _ ⟨rfl, e0⟩
    obtain rfl := Eq.symm e0
    rw [row_some (d := (d : Int)) ⟨q.1, p1⟩]
    refine Ex_astore (L2 := [_, _, _, _, _, _, _, _]) dX11_copy_40 rfl rfl rfl ?_
    refine Ex_aload_n dX11_copy_42 rfl rfl ?_
    refine Ex_iload_n dX11_copy_43 rfl rfl ?_
    refine Ex_inv 2 dX11_copy_44 rfl rfl (Or.inl rfl) rfl rfl rfl rfl z0 rfl rfl rfl (Ex_post (x11_rowOn Z V (by omega)) ?_)
    rintro _ _ ⟨rfl, e0⟩
    obtain rfl := Eq.symm e0
    rw [row_some (d := (e : Int)) ⟨q.2, p2⟩]
    refine Ex_astore (L2 := [_, _, _, _, _, _, _, _]) dX11_copy_47 rfl rfl rfl ?_
    refine Ex_aload dX11_copy_49 rfl rfl ?_
    refine Ex_ifnull (t := 72) dX11_copy_51 rfl rfl ?_
    refine Ex_aload dX11_copy_54 rfl rfl ?_
    refine Ex_ifnull (t := 72) dX11_copy_56 rfl rfl ?_
    refine Ex_aload dX11_copy_59 rfl rfl ?_
    refine Ex_getf dX11_copy_61 rfl (by first | exact z0 | exact w11 | exact w21) rfl rfl rfl ?_
    refine Ex_aload dX11_copy_64 rfl rfl ?_
    refine Ex_getf dX11_copy_66 rfl (by first | exact z0 | exact w11 | exact w21) rfl rfl rfl ?_
    refine Ex_icmp_eq (t := 75) dX11_copy_69 rfl rfl (by omega) (fun c69 => absurd c69 (by omega)) (fun c69 => ?_)
    refine Ex_bipush dX11_copy_72 rfl (by decide) ?_
    refine Ex_iret dX11_copy_74 rfl rfl ?_
    exact ⟨rfl, rfl⟩
  · skip
    refine Ex_iload_n dX11_copy_0 rfl rfl ?_
    refine Ex_stat 0 dX11_copy_1 rfl rfl (Or.inl rfl) rfl rfl rfl rfl rfl rfl (Ex_post (x11_isShelf (by omega)) ?_)
    rintro _ _ ⟨rfl, e0⟩
    obtain rfl := Eq.symm e0
    refine Ex_if_eq (t := 14) dX11_copy_4 rfl rfl (by omega) (fun c4 => absurd c4 (by omega)) (fun c4 => ?_)
    refine Ex_iload_n dX11_copy_7 rfl rfl ?_
    refine Ex_stat 0 dX11_copy_8 rfl rfl (Or.inl rfl) rfl rfl rfl rfl rfl rfl (Ex_post (x11_isShelf (by omega)) ?_)
    rintro _ _ ⟨rfl, e0⟩
    obtain rfl := Eq.symm e0
    refine Ex_if_ne (t := 16) dX11_copy_11 rfl rfl (by omega) (fun c11 => ?_) (fun c11 => absurd c11 (by omega))
    refine Ex_aload_n dX11_copy_16 rfl rfl ?_
    refine Ex_iload_n dX11_copy_17 rfl rfl ?_
    refine Ex_inv 2 dX11_copy_18 rfl rfl (Or.inl rfl) rfl rfl rfl rfl z0 rfl rfl rfl (Ex_post (x11_isEmpty (d0 := d) Z V hd8) ?_)
    rintro _ _ ⟨rfl, e0⟩
    obtain rfl := Eq.symm e0
    refine Ex_if_ne (t := 32) dX11_copy_21 rfl rfl (by split <;> omega) (fun c21 => absurd c21 (by first | omega | (rw [if_neg q1.1] at c21; omega))) (fun c21 => ?_)
    refine Ex_aload_n dX11_copy_24 rfl rfl ?_
    refine Ex_iload_n dX11_copy_25 rfl rfl ?_
    refine Ex_inv 2 dX11_copy_26 rfl rfl (Or.inl rfl) rfl rfl rfl rfl z0 rfl rfl rfl (Ex_post (x11_isEmpty (d0 := e) Z V he8) ?_)
    rintro _ _ ⟨rfl, e0⟩
    obtain rfl := Eq.symm e0
    refine Ex_if_eq (t := 35) dX11_copy_29 rfl rfl (by split <;> omega) (fun c29 => ?_) (fun c29 => absurd c29 (by first | omega | (rw [if_neg q1.2] at c29; omega)))
    refine Ex_aload_n dX11_copy_35 rfl rfl ?_
    refine Ex_iload_n dX11_copy_36 rfl rfl ?_
    refine Ex_inv 2 dX11_copy_37 rfl rfl (Or.inl rfl) rfl rfl rfl rfl z0 rfl rfl rfl (Ex_post (x11_rowOn Z V (by omega)) ?_)
    rintro _ _ ⟨rfl, e0⟩
    obtain rfl := Eq.symm e0
    rw [row_some (d := (d : Int)) ⟨q.1, p1⟩]
    refine Ex_astore (L2 := [_, _, _, _, _, _, _, _]) dX11_copy_40 rfl rfl rfl ?_
    refine Ex_aload_n dX11_copy_42 rfl rfl ?_
    refine Ex_iload_n dX11_copy_43 rfl rfl ?_
    refine Ex_inv 2 dX11_copy_44 rfl rfl (Or.inl rfl) rfl rfl rfl rfl z0 rfl rfl rfl (Ex_post (x11_rowOn Z V (by omega)) ?_)
    rintro _ _ ⟨rfl, e0⟩
    obtain rfl := Eq.symm e0
    rw [row_none (d := (e : Int)) (fun z => p2 z.2)]
    refine Ex_astoreN (L2 := [_, _, _, _, _, _, _, _]) dX11_copy_47 rfl rfl rfl ?_
    refine Ex_aload dX11_copy_49 rfl rfl ?_
    refine Ex_ifnull (t := 72) dX11_copy_51 rfl rfl ?_
    refine Ex_aloadN dX11_copy_54 rfl rfl ?_
    refine Ex_ifnullN (t := 72) dX11_copy_56 rfl rfl ?_
    refine Ex_bipush dX11_copy_72 rfl (by decide) ?_
    refine Ex_iret dX11_copy_74 rfl rfl ?_
    exact ⟨rfl, rfl⟩
  by_cases p2 : hw e = 2
  · refine Ex_iload_n dX11_copy_0 rfl rfl ?_
    refine Ex_stat 0 dX11_copy_1 rfl rfl (Or.inl rfl) rfl rfl rfl rfl rfl rfl (Ex_post (x11_isShelf (by omega)) ?_)
    rintro _ _ ⟨rfl, e0⟩
    obtain rfl := Eq.symm e0
    refine Ex_if_eq (t := 14) dX11_copy_4 rfl rfl (by omega) (fun c4 => absurd c4 (by omega)) (fun c4 => ?_)
    refine Ex_iload_n dX11_copy_7 rfl rfl ?_
    refine Ex_stat 0 dX11_copy_8 rfl rfl (Or.inl rfl) rfl rfl rfl rfl rfl rfl (Ex_post (x11_isShelf (by omega)) ?_)
    rintro _ _ ⟨rfl, e0⟩
    obtain rfl := Eq.symm e0
    refine Ex_if_ne (t := 16) dX11_copy_11 rfl rfl (by omega) (fun c11 => ?_) (fun c11 => absurd c11 (by omega))
    refine Ex_aload_n dX11_copy_16 rfl rfl ?_
    refine Ex_iload_n dX11_copy_17 rfl rfl ?_
    refine Ex_inv 2 dX11_copy_18 rfl rfl (Or.inl rfl) rfl rfl rfl rfl z0 rfl rfl rfl (Ex_post (x11_isEmpty (d0 := d) Z V hd8) ?_)
    rintro _ _ ⟨rfl, e0⟩
    obtain rfl := Eq.symm e0
    refine Ex_if_ne (t := 32) dX11_copy_21 rfl rfl (by split <;> omega) (fun c21 => absurd c21 (by first | omega | (rw [if_neg q1.1] at c21; omega))) (fun c21 => ?_)
    refine Ex_aload_n dX11_copy_24 rfl rfl ?_
    refine Ex_iload_n dX11_copy_25 rfl rfl ?_
    refine Ex_inv 2 dX11_copy_26 rfl rfl (Or.inl rfl) rfl rfl rfl rfl z0 rfl rfl rfl (Ex_post (x11_isEmpty (d0 := e) Z V he8) ?_)
    rintro _ _ ⟨rfl, e0⟩
    obtain rfl := Eq.symm e0
    refine Ex_if_eq (t := 35) dX11_copy_29 rfl rfl (by split <;> omega) (fun c29 => ?_) (fun c29 => absurd c29 (by first | omega | (rw [if_neg q1.2] at c29; omega)))
    refine Ex_aload_n dX11_copy_35 rfl rfl ?_
    refine Ex_iload_n dX11_copy_36 rfl rfl ?_
    refine Ex_inv 2 dX11_copy_37 rfl rfl (Or.inl rfl) rfl rfl rfl rfl z0 rfl rfl rfl (Ex_post (x11_rowOn Z V (by omega)) ?_)
    rintro _ _ ⟨rfl, e0⟩
    obtain rfl := Eq.symm e0
    rw [row_none (d := (d : Int)) (fun z => p1 z.2)]
    refine Ex_astoreN (L2 := [_, _, _, _, _, _, _, _]) dX11_copy_40 rfl rfl rfl ?_
    refine Ex_aload_n dX11_copy_42 rfl rfl ?_
    refine Ex_iload_n dX11_copy_43 rfl rfl ?_
    refine Ex_inv 2 dX11_copy_44 rfl rfl (Or.inl rfl) rfl rfl rfl rfl z0 rfl rfl rfl (Ex_post (x11_rowOn Z V (by omega)) ?_)
    rintro _ _ ⟨rfl, e0⟩
    obtain rfl := Eq.symm e0
    rw [row_some (d := (e : Int)) ⟨q.2, p2⟩]
    refine Ex_astore (L2 := [_, _, _, _, _, _, _, _]) dX11_copy_47 rfl rfl rfl ?_
    refine Ex_aloadN dX11_copy_49 rfl rfl ?_
    refine Ex_ifnullN (t := 72) dX11_copy_51 rfl rfl ?_
    refine Ex_bipush dX11_copy_72 rfl (by decide) ?_
    refine Ex_iret dX11_copy_74 rfl rfl ?_
    exact ⟨rfl, rfl⟩
  · refine Ex_iload_n dX11_copy_0 rfl rfl ?_
    refine Ex_stat 0 dX11_copy_1 rfl rfl (Or.inl rfl) rfl rfl rfl rfl rfl rfl (Ex_post (x11_isShelf (by omega)) ?_)
    rintro _ _ ⟨rfl, e0⟩
    obtain rfl := Eq.symm e0
    refine Ex_if_eq (t := 14) dX11_copy_4 rfl rfl (by omega) (fun c4 => absurd c4 (by omega)) (fun c4 => ?_)
    refine Ex_iload_n dX11_copy_7 rfl rfl ?_
    refine Ex_stat 0 dX11_copy_8 rfl rfl (Or.inl rfl) rfl rfl rfl rfl rfl rfl (Ex_post (x11_isShelf (by omega)) ?_)
    rintro _ _ ⟨rfl, e0⟩
    obtain rfl := Eq.symm e0
    refine Ex_if_ne (t := 16) dX11_copy_11 rfl rfl (by omega) (fun c11 => ?_) (fun c11 => absurd c11 (by omega))
    refine Ex_aload_n dX11_copy_16 rfl rfl ?_
    refine Ex_iload_n dX11_copy_17 rfl rfl ?_
    refine Ex_inv 2 dX11_copy_18 rfl rfl (Or.inl rfl) rfl rfl rfl rfl z0 rfl rfl rfl (Ex_post (x11_isEmpty (d0 := d) Z V hd8) ?_)
    rintro _ _ ⟨rfl, e0⟩
    obtain rfl := Eq.symm e0
    refine Ex_if_ne (t := 32) dX11_copy_21 rfl rfl (by split <;> omega) (fun c21 => absurd c21 (by first | omega | (rw [if_neg q1.1] at c21; omega))) (fun c21 => ?_)
    refine Ex_aload_n dX11_copy_24 rfl rfl ?_
    refine Ex_iload_n dX11_copy_25 rfl rfl ?_
    refine Ex_inv 2 dX11_copy_26 rfl rfl (Or.inl rfl) rfl rfl rfl rfl z0 rfl rfl rfl (Ex_post (x11_isEmpty (d0 := e) Z V he8) ?_)
    rintro _ _ ⟨rfl, e0⟩
    obtain rfl := Eq.symm e0
    refine Ex_if_eq (t := 35) dX11_copy_29 rfl rfl (by split <;> omega) (fun c29 => ?_) (fun c29 => absurd c29 (by first | omega | (rw [if_neg q1.2] at c29; omega)))
    refine Ex_aload_n dX11_copy_35 rfl rfl ?_
    refine Ex_iload_n dX11_copy_36 rfl rfl ?_
    refine Ex_inv 2 dX11_copy_37 rfl rfl (Or.inl rfl) rfl rfl rfl rfl z0 rfl rfl rfl (Ex_post (x11_rowOn Z V (by omega)) ?_)
    rintro _ _ ⟨rfl, e0⟩
    obtain rfl := Eq.symm e0
    rw [row_none (d := (d : Int)) (fun z => p1 z.2)]
    refine Ex_astoreN (L2 := [_, _, _, _, _, _, _, _]) dX11_copy_40 rfl rfl rfl ?_
    refine Ex_aload_n dX11_copy_42 rfl rfl ?_
    refine Ex_iload_n dX11_copy_43 rfl rfl ?_
    refine Ex_inv 2 dX11_copy_44 rfl rfl (Or.inl rfl) rfl rfl rfl rfl z0 rfl rfl rfl (Ex_post (x11_rowOn Z V (by omega)) ?_)
    rintro _ _ ⟨rfl, e0⟩
    obtain rfl := Eq.symm e0
    rw [row_none (d := (e : Int)) (fun z => p2 z.2)]
    refine Ex_astoreN (L2 := [_, _, _, _, _, _, _, _]) dX11_copy_47 rfl rfl rfl ?_
    refine Ex_aloadN dX11_copy_49 rfl rfl ?_
    refine Ex_ifnullN (t := 72) dX11_copy_51 rfl rfl ?_
    refine Ex_bipush dX11_copy_72 rfl (by decide) ?_
    refine Ex_iret dX11_copy_74 rfl rfl ?_
    exact ⟨rfl, rfl⟩
theorem x11_copy_13 {E : am_E} {d : Nat} {h : Hp} {x y : Nat} {hi : Int} {hw ck cf rs : Nat → Int} {rx : Nat → List Int} {sa : Nat → Nat} {a i b j n : Int}  (Z : Scr h x hi) (V : Shv h x y hw ck cf rs rx sa) (w : WF h) (hB : E.2 ≤ x) (hy : x + 57 ≤ y) (hyh : y ≤ h.2.1) (ha : (-2147483648 ≤ a ∧ a ≤ 2147483647)) (hi : (-2147483648 ≤ i ∧ i ≤ 2147483647)) (hb : (-2147483648 ≤ b ∧ b ≤ 2147483647)) (hj : (-2147483648 ≤ j ∧ j ≤ 2147483647)) (hn : (-2147483648 ≤ n ∧ n ≤ 2147483647)) (q : (0 ≤ a ∧ a ≤ 7) ∧ (0 ≤ b ∧ b ≤ 7)) (q1 : ¬ (hw a.toNat = 0 ∨ hw b.toNat = 0)) (q2 : hw a.toNat = 2 ∧ hw b.toNat = 2 ∧ rs a.toNat = rs b.toNat) (q3 : ¬ ((0 ≤ i ∧ 0 ≤ n ∧ i ≤ ((rx a.toNat).length : Int) ∧ n ≤ ((rx a.toNat).length : Int) - i) ∧ (0 ≤ j ∧ 0 ≤ n ∧ j ≤ ((rx b.toNat).length : Int) ∧ n ≤ ((rx b.toNat).length : Int) - j)))  : Ex E (d + 4) mX11_copy 0 [.ref x, .int (i32 a), .int (i32 i), .int (i32 b), .int (i32 j), .int (i32 n), .retAddr 0, .retAddr 0] [] h (fun r1 h1 => r1 = some (.int (i32 (-13))) ∧ h1 = h) := by
  obtain ⟨⟨bs, z0⟩, z1, z2⟩ := id Z
  obtain ⟨v1, v2, v3, v4⟩ := id V
  obtain ⟨d, rfl⟩ := Int.eq_ofNat_of_zero_le q.1.1
  obtain ⟨e, rfl⟩ := Int.eq_ofNat_of_zero_le q.2.1
  have hd8 : d < 8 := by omega
  have he8 : e < 8 := by omega
  obtain ⟨p1, p2, p3⟩ := q2
  have p1 : hw d = 2 := p1
  have p2 : hw e = 2 := p2
  have p3 : rs d = rs e := p3
  have q1 : ¬ hw d = 0 ∧ ¬ hw e = 0 := ⟨fun z => q1 (Or.inl z), fun z => q1 (Or.inr z)⟩
  obtain ⟨W1, hya1⟩ := V.row (d := (d : Int)) ⟨q.1, p1⟩
  have W1 : RowAt h (sa d) (rs d) (rx d) := W1
  have hya1 : y ≤ sa d := hya1
  obtain ⟨w11, w12, w13, w14, w15⟩ := id W1
  obtain ⟨W2, hya2⟩ := V.row (d := (e : Int)) ⟨q.2, p2⟩
  have W2 : RowAt h (sa e) (rs e) (rx e) := W2
  have hya2 : y ≤ sa e := hya2
  obtain ⟨w21, w22, w23, w24, w25⟩ := id W2
  have W1 : RowAt h (sa d) (rs d) (rx d) := W1
  have W2 : RowAt h (sa e) (rs e) (rx e) := W2
  have q3 : ¬ ((0 ≤ i ∧ 0 ≤ n ∧ i ≤ ((rx d).length : Int) ∧ n ≤ ((rx d).length : Int) - i) ∧ (0 ≤ j ∧ 0 ≤ n ∧ j ≤ ((rx e).length : Int) ∧ n ≤ ((rx e).length : Int) - j)) := q3
  refine Ex_iload_n dX11_copy_0 rfl rfl ?_
  refine Ex_stat 0 dX11_copy_1 rfl rfl (Or.inl rfl) rfl rfl rfl rfl rfl rfl (Ex_post (x11_isShelf (by omega)) ?_)
  rintro _ _ ⟨rfl, e0⟩
  obtain rfl := Eq.symm e0
  refine Ex_if_eq (t := 14) dX11_copy_4 rfl rfl (by omega) (fun c4 => absurd c4 (by omega)) (fun c4 => ?_)
  refine Ex_iload_n dX11_copy_7 rfl rfl ?_
  refine Ex_stat 0 dX11_copy_8 rfl rfl (Or.inl rfl) rfl rfl rfl rfl rfl rfl (Ex_post (x11_isShelf (by omega)) ?_)
  rintro _ _ ⟨rfl, e0⟩
  obtain rfl := Eq.symm e0
  refine Ex_if_ne (t := 16) dX11_copy_11 rfl rfl (by omega) (fun c11 => ?_) (fun c11 => absurd c11 (by omega))
  refine Ex_aload_n dX11_copy_16 rfl rfl ?_
  refine Ex_iload_n dX11_copy_17 rfl rfl ?_
  refine Ex_inv 2 dX11_copy_18 rfl rfl (Or.inl rfl) rfl rfl rfl rfl z0 rfl rfl rfl (Ex_post (x11_isEmpty (d0 := d) Z V hd8) ?_)
  rintro _ _ ⟨rfl, e0⟩
  obtain rfl := Eq.symm e0
  refine Ex_if_ne (t := 32) dX11_copy_21 rfl rfl (by split <;> omega) (fun c21 => absurd c21 (by first | omega | (rw [if_neg q1.1] at c21; omega))) (fun c21 => ?_)
  refine Ex_aload_n dX11_copy_24 rfl rfl ?_
  refine Ex_iload_n dX11_copy_25 rfl rfl ?_
  refine Ex_inv 2 dX11_copy_26 rfl rfl (Or.inl rfl) rfl rfl rfl rfl z0 rfl rfl rfl (Ex_post (x11_isEmpty (d0 := e) Z V he8) ?_)
  rintro _ _ ⟨rfl, e0⟩
  obtain rfl := Eq.symm e0
  refine Ex_if_eq (t := 35) dX11_copy_29 rfl rfl (by split <;> omega) (fun c29 => ?_) (fun c29 => absurd c29 (by first | omega | (rw [if_neg q1.2] at c29; omega)))
  refine Ex_aload_n dX11_copy_35 rfl rfl ?_
  refine Ex_iload_n dX11_copy_36 rfl rfl ?_
  refine Ex_inv 2 dX11_copy_37 rfl rfl (Or.inl rfl) rfl rfl rfl rfl z0 rfl rfl rfl (Ex_post (x11_rowOn Z V (by omega)) ?_)
  rintro _ _ ⟨rfl, e0⟩
  obtain rfl := Eq.symm e0
  rw [row_some (d := (d : Int)) ⟨q.1, p1⟩]
  refine Ex_astore (L2 := [_, _, _, _, _, _, _, _]) dX11_copy_40 rfl rfl rfl ?_
  refine Ex_aload_n dX11_copy_42 rfl rfl ?_
  refine Ex_iload_n dX11_copy_43 rfl rfl ?_
  refine Ex_inv 2 dX11_copy_44 rfl rfl (Or.inl rfl) rfl rfl rfl rfl z0 rfl rfl rfl (Ex_post (x11_rowOn Z V (by omega)) ?_)
  rintro _ _ ⟨rfl, e0⟩
  obtain rfl := Eq.symm e0
  rw [row_some (d := (e : Int)) ⟨q.2, p2⟩]
  refine Ex_astore (L2 := [_, _, _, _, _, _, _, _]) dX11_copy_47 rfl rfl rfl ?_
  refine Ex_aload dX11_copy_49 rfl rfl ?_
  refine Ex_ifnull (t := 72) dX11_copy_51 rfl rfl ?_
  refine Ex_aload dX11_copy_54 rfl rfl ?_
  refine Ex_ifnull (t := 72) dX11_copy_56 rfl rfl ?_
  refine Ex_aload dX11_copy_59 rfl rfl ?_
  refine Ex_getf dX11_copy_61 rfl (by first | exact z0 | exact w11 | exact w21) rfl rfl rfl ?_
  refine Ex_aload dX11_copy_64 rfl rfl ?_
  refine Ex_getf dX11_copy_66 rfl (by first | exact z0 | exact w11 | exact w21) rfl rfl rfl ?_
  refine Ex_icmp_eq (t := 75) dX11_copy_69 rfl rfl (by omega) (fun c69 => ?_) (fun c69 => absurd c69 (by omega))
  refine Ex_aload dX11_copy_75 rfl rfl ?_
  refine Ex_iload_n dX11_copy_77 rfl rfl ?_
  refine Ex_iload dX11_copy_78 rfl rfl ?_
  refine Ex_inv 2 dX11_copy_80 rfl rfl (Or.inl rfl) rfl rfl rfl rfl w11 rfl rfl rfl (Ex_post (x8_hasPart W1 (by omega) (by omega)) ?_)
  rintro _ _ ⟨rfl, e0⟩
  obtain rfl := Eq.symm e0
  refine Ex_if_eq (t := 98) dX11_copy_83 rfl rfl (by omega) (fun c83 => ?_) (fun c83 => ?_)
  · refine Ex_bipush dX11_copy_98 rfl (by decide) ?_
    refine Ex_iret dX11_copy_100 rfl rfl ?_
    exact ⟨rfl, rfl⟩
  · refine Ex_aload dX11_copy_86 rfl rfl ?_
    refine Ex_iload dX11_copy_88 rfl rfl ?_
    refine Ex_iload dX11_copy_90 rfl rfl ?_
    refine Ex_inv 2 dX11_copy_92 rfl rfl (Or.inl rfl) rfl rfl rfl rfl w21 rfl rfl rfl (Ex_post (x8_hasPart W2 (by omega) (by omega)) ?_)
    rintro _ _ ⟨rfl, e0⟩
    obtain rfl := Eq.symm e0
    refine Ex_if_ne (t := 101) dX11_copy_95 rfl rfl (by omega) (fun c95 => ?_) (fun c95 => ?_)
    · exfalso; omega
    · refine Ex_bipush dX11_copy_98 rfl (by decide) ?_
      refine Ex_iret dX11_copy_100 rfl rfl ?_
      exact ⟨rfl, rfl⟩
theorem x11_copy_yes {E : am_E} {d : Nat} {h : Hp} {x y : Nat} {hi : Int} {hw ck cf rs : Nat → Int} {rx : Nat → List Int} {sa : Nat → Nat} {a i b j n : Int}  (Z : Scr h x hi) (V : Shv h x y hw ck cf rs rx sa) (w : WF h) (hB : E.2 ≤ x) (hy : x + 57 ≤ y) (hyh : y ≤ h.2.1) (ha : (-2147483648 ≤ a ∧ a ≤ 2147483647)) (hi : (-2147483648 ≤ i ∧ i ≤ 2147483647)) (hb : (-2147483648 ≤ b ∧ b ≤ 2147483647)) (hj : (-2147483648 ≤ j ∧ j ≤ 2147483647)) (hn : (-2147483648 ≤ n ∧ n ≤ 2147483647)) (q : (0 ≤ a ∧ a ≤ 7) ∧ (0 ≤ b ∧ b ≤ 7)) (q1 : ¬ (hw a.toNat = 0 ∨ hw b.toNat = 0)) (q2 : hw a.toNat = 2 ∧ hw b.toNat = 2 ∧ rs a.toNat = rs b.toNat) (q3 : ((0 ≤ i ∧ 0 ≤ n ∧ i ≤ ((rx a.toNat).length : Int) ∧ n ≤ ((rx a.toNat).length : Int) - i) ∧ (0 ≤ j ∧ 0 ≤ n ∧ j ≤ ((rx b.toNat).length : Int) ∧ n ≤ ((rx b.toNat).length : Int) - j)))  : Ex E (d + 4) mX11_copy 0 [.ref x, .int (i32 a), .int (i32 i), .int (i32 b), .int (i32 j), .int (i32 n), .retAddr 0, .retAddr 0] [] h (fun r1 h1 => r1 = some (.int (i32 n)) ∧ Shv h1 x y hw ck cf rs (fuL rx b.toNat (cpL (rx a.toNat) (rx b.toNat) i.toNat j.toNat n.toNat)) sa ∧ Fr h h1 (sa b.toNat + 1) (sa b.toNat + 2) ∧ y ≤ sa b.toNat) := by
  obtain ⟨⟨bs, z0⟩, z1, z2⟩ := id Z
  obtain ⟨v1, v2, v3, v4⟩ := id V
  obtain ⟨d, rfl⟩ := Int.eq_ofNat_of_zero_le q.1.1
  obtain ⟨e, rfl⟩ := Int.eq_ofNat_of_zero_le q.2.1
  have hd8 : d < 8 := by omega
  have he8 : e < 8 := by omega
  obtain ⟨p1, p2, p3⟩ := q2
  have p1 : hw d = 2 := p1
  have p2 : hw e = 2 := p2
  have p3 : rs d = rs e := p3
  have q1 : ¬ hw d = 0 ∧ ¬ hw e = 0 := ⟨fun z => q1 (Or.inl z), fun z => q1 (Or.inr z)⟩
  obtain ⟨W1, hya1⟩ := V.row (d := (d : Int)) ⟨q.1, p1⟩
  have W1 : RowAt h (sa d) (rs d) (rx d) := W1
  have hya1 : y ≤ sa d := hya1
  obtain ⟨w11, w12, w13, w14, w15⟩ := id W1
  obtain ⟨W2, hya2⟩ := V.row (d := (e : Int)) ⟨q.2, p2⟩
  have W2 : RowAt h (sa e) (rs e) (rx e) := W2
  have hya2 : y ≤ sa e := hya2
  obtain ⟨w21, w22, w23, w24, w25⟩ := id W2
  have W1 : RowAt h (sa d) (rs d) (rx d) := W1
  have W2 : RowAt h (sa e) (rs e) (rx e) := W2
  have q3 : ((0 ≤ i ∧ 0 ≤ n ∧ i ≤ ((rx d).length : Int) ∧ n ≤ ((rx d).length : Int) - i) ∧ (0 ≤ j ∧ 0 ≤ n ∧ j ≤ ((rx e).length : Int) ∧ n ≤ ((rx e).length : Int) - j)) := q3
  refine Ex_iload_n dX11_copy_0 rfl rfl ?_
  refine Ex_stat 0 dX11_copy_1 rfl rfl (Or.inl rfl) rfl rfl rfl rfl rfl rfl (Ex_post (x11_isShelf (by omega)) ?_)
  rintro _ _ ⟨rfl, e0⟩
  obtain rfl := Eq.symm e0
  refine Ex_if_eq (t := 14) dX11_copy_4 rfl rfl (by omega) (fun c4 => absurd c4 (by omega)) (fun c4 => ?_)
  refine Ex_iload_n dX11_copy_7 rfl rfl ?_
  refine Ex_stat 0 dX11_copy_8 rfl rfl (Or.inl rfl) rfl rfl rfl rfl rfl rfl (Ex_post (x11_isShelf (by omega)) ?_)
  rintro _ _ ⟨rfl, e0⟩
  obtain rfl := Eq.symm e0
  refine Ex_if_ne (t := 16) dX11_copy_11 rfl rfl (by omega) (fun c11 => ?_) (fun c11 => absurd c11 (by omega))
  refine Ex_aload_n dX11_copy_16 rfl rfl ?_
  refine Ex_iload_n dX11_copy_17 rfl rfl ?_
  refine Ex_inv 2 dX11_copy_18 rfl rfl (Or.inl rfl) rfl rfl rfl rfl z0 rfl rfl rfl (Ex_post (x11_isEmpty (d0 := d) Z V hd8) ?_)
  rintro _ _ ⟨rfl, e0⟩
  obtain rfl := Eq.symm e0
  refine Ex_if_ne (t := 32) dX11_copy_21 rfl rfl (by split <;> omega) (fun c21 => absurd c21 (by first | omega | (rw [if_neg q1.1] at c21; omega))) (fun c21 => ?_)
  refine Ex_aload_n dX11_copy_24 rfl rfl ?_
  refine Ex_iload_n dX11_copy_25 rfl rfl ?_
  refine Ex_inv 2 dX11_copy_26 rfl rfl (Or.inl rfl) rfl rfl rfl rfl z0 rfl rfl rfl (Ex_post (x11_isEmpty (d0 := e) Z V he8) ?_)
  rintro _ _ ⟨rfl, e0⟩
  obtain rfl := Eq.symm e0
  refine Ex_if_eq (t := 35) dX11_copy_29 rfl rfl (by split <;> omega) (fun c29 => ?_) (fun c29 => absurd c29 (by first | omega | (rw [if_neg q1.2] at c29; omega)))
  refine Ex_aload_n dX11_copy_35 rfl rfl ?_
  refine Ex_iload_n dX11_copy_36 rfl rfl ?_
  refine Ex_inv 2 dX11_copy_37 rfl rfl (Or.inl rfl) rfl rfl rfl rfl z0 rfl rfl rfl (Ex_post (x11_rowOn Z V (by omega)) ?_)
  rintro _ _ ⟨rfl, e0⟩
  obtain rfl := Eq.symm e0
  rw [row_some (d := (d : Int)) ⟨q.1, p1⟩]
  refine Ex_astore (L2 := [_, _, _, _, _, _, _, _]) dX11_copy_40 rfl rfl rfl ?_
  refine Ex_aload_n dX11_copy_42 rfl rfl ?_
  refine Ex_iload_n dX11_copy_43 rfl rfl ?_
  refine Ex_inv 2 dX11_copy_44 rfl rfl (Or.inl rfl) rfl rfl rfl rfl z0 rfl rfl rfl (Ex_post (x11_rowOn Z V (by omega)) ?_)
  rintro _ _ ⟨rfl, e0⟩
  obtain rfl := Eq.symm e0
  rw [row_some (d := (e : Int)) ⟨q.2, p2⟩]
  refine Ex_astore (L2 := [_, _, _, _, _, _, _, _]) dX11_copy_47 rfl rfl rfl ?_
  refine Ex_aload dX11_copy_49 rfl rfl ?_
  refine Ex_ifnull (t := 72) dX11_copy_51 rfl rfl ?_
  refine Ex_aload dX11_copy_54 rfl rfl ?_
  refine Ex_ifnull (t := 72) dX11_copy_56 rfl rfl ?_
  refine Ex_aload dX11_copy_59 rfl rfl ?_
  refine Ex_getf dX11_copy_61 rfl (by first | exact z0 | exact w11 | exact w21) rfl rfl rfl ?_
  refine Ex_aload dX11_copy_64 rfl rfl ?_
  refine Ex_getf dX11_copy_66 rfl (by first | exact z0 | exact w11 | exact w21) rfl rfl rfl ?_
  refine Ex_icmp_eq (t := 75) dX11_copy_69 rfl rfl (by omega) (fun c69 => ?_) (fun c69 => absurd c69 (by omega))
  refine Ex_aload dX11_copy_75 rfl rfl ?_
  refine Ex_iload_n dX11_copy_77 rfl rfl ?_
  refine Ex_iload dX11_copy_78 rfl rfl ?_
  refine Ex_inv 2 dX11_copy_80 rfl rfl (Or.inl rfl) rfl rfl rfl rfl w11 rfl rfl rfl (Ex_post (x8_hasPart W1 (by omega) (by omega)) ?_)
  rintro _ _ ⟨rfl, e0⟩
  obtain rfl := Eq.symm e0
  refine Ex_if_eq (t := 98) dX11_copy_83 rfl rfl (by omega) (fun c83 => absurd c83 (by omega)) (fun c83 => ?_)
  refine Ex_aload dX11_copy_86 rfl rfl ?_
  refine Ex_iload dX11_copy_88 rfl rfl ?_
  refine Ex_iload dX11_copy_90 rfl rfl ?_
  refine Ex_inv 2 dX11_copy_92 rfl rfl (Or.inl rfl) rfl rfl rfl rfl w21 rfl rfl rfl (Ex_post (x8_hasPart W2 (by omega) (by omega)) ?_)
  rintro _ _ ⟨rfl, e0⟩
  obtain rfl := Eq.symm e0
  refine Ex_if_ne (t := 101) dX11_copy_95 rfl rfl (by omega) (fun c95 => ?_) (fun c95 => absurd c95 (by omega))
  refine Ex_aload dX11_copy_101 rfl rfl ?_
  refine Ex_getf dX11_copy_103 rfl (by first | exact z0 | exact w11 | exact w21) rfl rfl rfl ?_
  refine Ex_iload_n dX11_copy_106 rfl rfl ?_
  refine Ex_aload dX11_copy_107 rfl rfl ?_
  refine Ex_getf dX11_copy_109 rfl (by first | exact z0 | exact w11 | exact w21) rfl rfl rfl ?_
  refine Ex_iload dX11_copy_112 rfl rfl ?_
  refine Ex_iload dX11_copy_114 rfl rfl ?_
  refine Ex_copy dX11_copy_116 rfl rfl rfl w12 w22 (by omega) (by omega) (by omega) (by rw [ia_len]; show i.toNat + n.toNat ≤ (rx d).length; omega) (by rw [ia_len]; show j.toNat + n.toNat ≤ (rx e).length; omega) (ia_all _) (ia_all _) (by omega) (cpL_ia _ _ _ _ _) ?_
  refine Ex_iload dX11_copy_119 rfl rfl ?_
  refine Ex_iret dX11_copy_121 rfl rfl ?_
  exact ⟨rfl, V.set hy he8 p2 rfl (by rw [cpL_len (by show i.toNat + n.toNat ≤ (rx d).length; omega) (by show j.toNat + n.toNat ≤ (rx e).length; omega)]; exact W2.2.2.2.1) (cpL_r W1.2.2.2.2 W2.2.2.2.2), Fr.put (lo := sa e + 1) (hi := sa e + 2) _ (by omega), hya2⟩
theorem x11_tells_l {E : am_E} {d : Nat} {h : Hp} {a : Nat} {so v hd : Int} {xs : List Int}  (W : RowAt h a so xs) (hv : 0 ≤ v ∧ v ≤ 20) (hh : 0 ≤ hd ∧ hd ≤ 6)  : ∀ (k : Nat) (i : Int), i + k = xs.length → 0 ≤ i → Ex E (d + 3) mX11_tellsHolding 2 [.ref a, .int (i32 v), .int (i32 hd), .int (i32 i)] [] h (fun r1 h1 => r1 = some (.int (i32 (if tl xs v hd i k = true then 1 else 0))) ∧ h1 = h) := by
  intro k
  induction k with
  | zero =>
    intro i hk hi0
    obtain ⟨w1, w2, w3, w4, w5⟩ := id W
    · refine Ex_iload_n dX11_tellsHolding_2 rfl rfl ?_
      refine Ex_aload_n dX11_tellsHolding_3 rfl rfl ?_
      refine Ex_inv 2 dX11_tellsHolding_4 rfl rfl (Or.inl rfl) rfl rfl rfl rfl w1 rfl rfl rfl (Ex_post (x8_size W) ?_)
      rintro _ _ ⟨rfl, e0⟩
      obtain rfl := Eq.symm e0
      refine Ex_icmp_ge (t := 36) dX11_tellsHolding_7 rfl rfl (by omega) (fun c7 => ?_) (fun c7 => absurd c7 (by omega))
      refine Ex_iconst dX11_tellsHolding_36 rfl ?_
      refine Ex_iret dX11_tellsHolding_37 rfl rfl ?_
      exact ⟨rfl, rfl⟩
  | succ k ih =>
    intro i hk hi0
    obtain ⟨w1, w2, w3, w4, w5⟩ := id W
    have gc := gx_r w5 i
    have hm1 : i * hd ≤ 100 * 6 := Int.mul_le_mul (by omega) hh.2 hh.1 (by omega)
    have hm0 : 0 ≤ i * hd := Int.mul_nonneg hi0 hh.1
    have eb : tl xs v hd i (k + 1) = if gx xs i = min 20 (v + i * hd) then tl xs v hd (i + 1) k else false := rfl
    rw [eb]
    by_cases q : gx xs i = min 20 (v + i * hd)
    · rw [if_pos q]
      refine Ex_iload_n dX11_tellsHolding_2 rfl rfl ?_
      refine Ex_aload_n dX11_tellsHolding_3 rfl rfl ?_
      refine Ex_inv 2 dX11_tellsHolding_4 rfl rfl (Or.inl rfl) rfl rfl rfl rfl w1 rfl rfl rfl (Ex_post (x8_size W) ?_)
      rintro _ _ ⟨rfl, e0⟩
      obtain rfl := Eq.symm e0
      refine Ex_icmp_ge (t := 36) dX11_tellsHolding_7 rfl rfl (by omega) (fun c7 => absurd c7 (by omega)) (fun c7 => ?_)
      refine Ex_aload_n dX11_tellsHolding_10 rfl rfl ?_
      refine Ex_iload_n dX11_tellsHolding_11 rfl rfl ?_
      refine Ex_inv 2 dX11_tellsHolding_12 rfl rfl (Or.inl rfl) rfl rfl rfl rfl w1 rfl rfl rfl (Ex_post (x8_at W (by omega)) ?_)
      rintro _ _ ⟨rfl, e0⟩
      obtain rfl := Eq.symm e0
      refine Ex_bipush dX11_tellsHolding_15 rfl (by decide) ?_
      refine Ex_iload_n dX11_tellsHolding_17 rfl rfl ?_
      refine Ex_iload_n dX11_tellsHolding_18 rfl rfl ?_
      refine Ex_iload_n dX11_tellsHolding_19 rfl rfl ?_
      refine Ex_imul dX11_tellsHolding_20 rfl ?_
      refine Ex_iadd dX11_tellsHolding_21 rfl ?_
      refine Ex_min dX11_tellsHolding_22 rfl rfl rfl (by omega) ?_
      refine Ex_icmp_eq (t := 30) dX11_tellsHolding_25 rfl rfl (by omega) (fun c25 => ?_) (fun c25 => absurd c25 (by omega))
      refine Ex_iinc (L2 := [_, _, _, _]) dX11_tellsHolding_30 rfl rfl rfl ?_
      refine Ex_goto (t := 2) dX11_tellsHolding_33 rfl ?_
      exact ih (i + 1) (by omega) (by omega)
    · rw [if_neg q]
      refine Ex_iload_n dX11_tellsHolding_2 rfl rfl ?_
      refine Ex_aload_n dX11_tellsHolding_3 rfl rfl ?_
      refine Ex_inv 2 dX11_tellsHolding_4 rfl rfl (Or.inl rfl) rfl rfl rfl rfl w1 rfl rfl rfl (Ex_post (x8_size W) ?_)
      rintro _ _ ⟨rfl, e0⟩
      obtain rfl := Eq.symm e0
      refine Ex_icmp_ge (t := 36) dX11_tellsHolding_7 rfl rfl (by omega) (fun c7 => absurd c7 (by omega)) (fun c7 => ?_)
      refine Ex_aload_n dX11_tellsHolding_10 rfl rfl ?_
      refine Ex_iload_n dX11_tellsHolding_11 rfl rfl ?_
      refine Ex_inv 2 dX11_tellsHolding_12 rfl rfl (Or.inl rfl) rfl rfl rfl rfl w1 rfl rfl rfl (Ex_post (x8_at W (by omega)) ?_)
      rintro _ _ ⟨rfl, e0⟩
      obtain rfl := Eq.symm e0
      refine Ex_bipush dX11_tellsHolding_15 rfl (by decide) ?_
      refine Ex_iload_n dX11_tellsHolding_17 rfl rfl ?_
      refine Ex_iload_n dX11_tellsHolding_18 rfl rfl ?_
      refine Ex_iload_n dX11_tellsHolding_19 rfl rfl ?_
      refine Ex_imul dX11_tellsHolding_20 rfl ?_
      refine Ex_iadd dX11_tellsHolding_21 rfl ?_
      refine Ex_min dX11_tellsHolding_22 rfl rfl rfl (by omega) ?_
      refine Ex_icmp_eq (t := 30) dX11_tellsHolding_25 rfl rfl (by omega) (fun c25 => absurd c25 (by omega)) (fun c25 => ?_)
      refine Ex_iconst dX11_tellsHolding_28 rfl ?_
      refine Ex_iret dX11_tellsHolding_29 rfl rfl ?_
      exact ⟨rfl, rfl⟩
theorem x11_tells {E : am_E} {d : Nat} {h : Hp} {a : Nat} {so v hd : Int} {xs : List Int}  (W : RowAt h a so xs) (hv : 0 ≤ v ∧ v ≤ 20) (hh : 0 ≤ hd ∧ hd ≤ 6)  : Ex E (d + 3) mX11_tellsHolding 0 [.ref a, .int (i32 v), .int (i32 hd), .retAddr 0] [] h (fun r1 h1 => r1 = some (.int (i32 (if tl xs v hd 0 xs.length = true then 1 else 0))) ∧ h1 = h) := by
  refine Ex_iconst dX11_tellsHolding_0 rfl ?_
  refine Ex_istore_n (L2 := [_, _, _, _]) dX11_tellsHolding_1 rfl rfl rfl ?_
  exact x11_tells_l W hv hh xs.length 0 (by omega) (by omega)
theorem x11_was_l {E : am_E} {d : Nat} {x a : Nat} {d0 so v f w : Int} {xs : List Int}  (hB : E.2 ≤ a) (hv : 0 ≤ v ∧ v ≤ 20) (hf : 0 ≤ f ∧ f ≤ 9) (hw : 0 ≤ w ∧ w ≤ 1)  : ∀ (k : Nat) (c : Nat) (h : Hp), c + k = 8 → WF h → RowAt h a so xs → Ex E (d + 5) mX11_was 63 [.ref x, .int (i32 d0), .int (i32 v), .int (i32 f), .int (i32 w), .ref a, .int (i32 (bt (wsB xs v f) 0 c)), .int (i32 (c : Int))] [] h (fun r1 h1 => r1 = some (.int (i32 (if w = 0 then bt (wsB xs v f) 0 8 else pop (bt (wsB xs v f) 0 8).toNat))) ∧ Gr h h1 0 0 (2 * k) (16 * k)) := by
  intro k
  induction k with
  | zero =>
    intro c h hk wf W
    obtain rfl : c = 8 := by omega
    have hb := bt_r (p := wsB xs v f) 8 0
    have hb8 : (2 : Int) ^ (0 + 8) = 256 := rfl
    have hb0 : (2 : Int) ^ 0 = 1 := rfl
    by_cases hw0 : w = 0
    · rw [if_pos hw0]
      refine Ex_iload dX11_was_63 rfl rfl ?_
      refine Ex_bipush dX11_was_65 rfl (by decide) ?_
      refine Ex_icmp_gt (t := 103) dX11_was_67 rfl rfl (by omega) (fun c67 => ?_) (fun c67 => absurd c67 (by omega))
      refine Ex_iload dX11_was_103 rfl rfl ?_
      refine Ex_if_ne (t := 113) dX11_was_105 rfl rfl (by omega) (fun c105 => absurd c105 (by omega)) (fun c105 => ?_)
      refine Ex_iload dX11_was_108 rfl rfl ?_
      refine Ex_goto (t := 118) dX11_was_110 rfl ?_
      refine Ex_iret dX11_was_118 rfl rfl ?_
      exact ⟨rfl, Gr.rf wf _ _ _ _⟩
    · rw [if_neg hw0]
      refine Ex_iload dX11_was_63 rfl rfl ?_
      refine Ex_bipush dX11_was_65 rfl (by decide) ?_
      refine Ex_icmp_gt (t := 103) dX11_was_67 rfl rfl (by omega) (fun c67 => ?_) (fun c67 => absurd c67 (by omega))
      refine Ex_iload dX11_was_103 rfl rfl ?_
      refine Ex_if_ne (t := 113) dX11_was_105 rfl rfl (by omega) (fun c105 => ?_) (fun c105 => absurd c105 (by omega))
      refine Ex_iload dX11_was_113 rfl rfl ?_
      rw [show bt (wsB xs v f) 0 8 = (((bt (wsB xs v f) 0 8).toNat : Nat) : Int) by omega]
      refine Ex_stat 0 dX11_was_115 rfl rfl (Or.inl rfl) rfl rfl rfl rfl rfl rfl (Ex_post (j6_bitCount (by omega)) ?_)
      rintro _ _ ⟨rfl, e0⟩
      obtain rfl := Eq.symm e0
      refine Ex_iret dX11_was_118 rfl rfl ?_
      exact ⟨rfl, Gr.rf wf _ _ _ _⟩
  | succ k ih =>
    intro c h hk wf W
    have hb := bt_r (p := wsB xs v f) c 0
    rw [Nat.zero_add] at hb
    have hb0 : (2 : Int) ^ 0 = 1 := rfl
    have hal := wf.lt W.2.1
    have hho := sp_holds_r (k := (c : Int)) hf
    cases hq : wsB xs v f c
    · have ebs : bt (wsB xs v f) 0 (c + 1) = bt (wsB xs v f) 0 c := by rw [bt_snoc, Nat.zero_add, hq]; simp
      have hq2 : (if tl xs v (sp_holds (c : Int) f) 0 xs.length = true then (1 : Int) else 0) = 0 := by
        have hq3 : tl xs v (sp_holds (c : Int) f) 0 xs.length = false := hq
        rw [hq3]; rfl
      refine Ex_iload dX11_was_63 rfl rfl ?_
      refine Ex_bipush dX11_was_65 rfl (by decide) ?_
      refine Ex_icmp_gt (t := 103) dX11_was_67 rfl rfl (by omega) (fun c67 => absurd c67 (by omega)) (fun c67 => ?_)
      refine Ex_aload dX11_was_70 rfl rfl ?_
      refine Ex_iload_n dX11_was_72 rfl rfl ?_
      refine Ex_iload dX11_was_73 rfl rfl ?_
      refine Ex_iload_n dX11_was_75 rfl rfl ?_
      refine Ex_stat 0 dX11_was_76 rfl rfl (Or.inl rfl) rfl rfl rfl rfl rfl rfl (Ex_post (x1_of (by omega) (by omega) hf) ?_)
      rintro _ h9 ⟨rfl, K9, e9, q9⟩
      have g9 := of_gr wf e9 q9 0
      have W9 := g9.row W (by omega)
      refine Ex_getf dX11_was_79 rfl (K9.1) rfl (ktag_in _) rfl ?_
      refine Ex_stat 0 dX11_was_82 rfl rfl (Or.inl rfl) rfl rfl rfl rfl rfl rfl (Ex_post (x11_tells W9 hv (by omega)) ?_)
      rintro _ _ ⟨rfl, e0⟩
      obtain rfl := Eq.symm e0
      rw [hq2]
      refine Ex_if_eq (t := 97) dX11_was_85 rfl rfl (by omega) (fun c85 => ?_) (fun c85 => absurd c85 (by omega))
      refine Ex_iinc (L2 := [_, _, _, _, _, _, _, _]) dX11_was_97 rfl rfl rfl ?_
      refine Ex_goto (t := 63) dX11_was_100 rfl ?_
      rw [← ebs]
      refine Ex_post (ih (c + 1) h9 (by omega) g9.2.1 W9) ?_
      rintro r1 h1 ⟨rfl, g8⟩
      exact ⟨rfl, (g9.trans g8).wide (Nat.le_refl _) (Nat.le_refl _) (by omega) (by omega)⟩
    · have ebs : bt (wsB xs v f) 0 (c + 1) = bt (wsB xs v f) 0 c + 2 ^ c := by rw [bt_snoc, Nat.zero_add, hq]; rfl
      have hq2 : (if tl xs v (sp_holds (c : Int) f) 0 xs.length = true then (1 : Int) else 0) = 1 := by
        have hq3 : tl xs v (sp_holds (c : Int) f) 0 xs.length = true := hq
        rw [hq3]; rfl
      refine Ex_iload dX11_was_63 rfl rfl ?_
      refine Ex_bipush dX11_was_65 rfl (by decide) ?_
      refine Ex_icmp_gt (t := 103) dX11_was_67 rfl rfl (by omega) (fun c67 => absurd c67 (by omega)) (fun c67 => ?_)
      refine Ex_aload dX11_was_70 rfl rfl ?_
      refine Ex_iload_n dX11_was_72 rfl rfl ?_
      refine Ex_iload dX11_was_73 rfl rfl ?_
      refine Ex_iload_n dX11_was_75 rfl rfl ?_
      refine Ex_stat 0 dX11_was_76 rfl rfl (Or.inl rfl) rfl rfl rfl rfl rfl rfl (Ex_post (x1_of (by omega) (by omega) hf) ?_)
      rintro _ h9 ⟨rfl, K9, e9, q9⟩
      have g9 := of_gr wf e9 q9 0
      have W9 := g9.row W (by omega)
      refine Ex_getf dX11_was_79 rfl (K9.1) rfl (ktag_in _) rfl ?_
      refine Ex_stat 0 dX11_was_82 rfl rfl (Or.inl rfl) rfl rfl rfl rfl rfl rfl (Ex_post (x11_tells W9 hv (by omega)) ?_)
      rintro _ _ ⟨rfl, e0⟩
      obtain rfl := Eq.symm e0
      rw [hq2]
      refine Ex_if_eq (t := 97) dX11_was_85 rfl rfl (by omega) (fun c85 => absurd c85 (by omega)) (fun c85 => ?_)
      refine Ex_iload dX11_was_88 rfl rfl ?_
      refine Ex_iconst dX11_was_90 rfl ?_
      refine Ex_iload dX11_was_91 rfl rfl ?_
      refine Ex_ishl (v := ((2 : Int) ^ c)) dX11_was_93 rfl (shl_bit c (by omega)) ?_
      refine Ex_ior (v := (bt (wsB xs v f) 0 c + (2 : Int) ^ c)) dX11_was_94 rfl (or_bitI (by omega) (by omega)) ?_
      refine Ex_istore (L2 := [_, _, _, _, _, _, _, _]) dX11_was_95 rfl rfl rfl ?_
      refine Ex_iinc (L2 := [_, _, _, _, _, _, _, _]) dX11_was_97 rfl rfl rfl ?_
      refine Ex_goto (t := 63) dX11_was_100 rfl ?_
      rw [← ebs]
      refine Ex_post (ih (c + 1) h9 (by omega) g9.2.1 W9) ?_
      rintro r1 h1 ⟨rfl, g8⟩
      exact ⟨rfl, (g9.trans g8).wide (Nat.le_refl _) (Nat.le_refl _) (by omega) (by omega)⟩
theorem x11_was {E : am_E} {d : Nat} {h : Hp} {x y : Nat} {hi : Int} {hw ck cf rs : Nat → Int} {rx : Nat → List Int} {sa : Nat → Nat} {a v f w : Int}  (Z : Scr h x hi) (V : Shv h x y hw ck cf rs rx sa) (wf : WF h) (hB : E.2 ≤ x) (hy : x + 57 ≤ y) (hyh : y ≤ h.2.1) (ha : (-2147483648 ≤ a ∧ a ≤ 2147483647)) (hv : (-2147483648 ≤ v ∧ v ≤ 2147483647)) (hf : (-2147483648 ≤ f ∧ f ≤ 2147483647)) (hw0 : (-2147483648 ≤ w ∧ w ≤ 2147483647))  : Ex E (d + 5) mX11_was 0 [.ref x, .int (i32 a), .int (i32 v), .int (i32 f), .int (i32 w), .retAddr 0, .retAddr 0, .retAddr 0] [] h (fun r1 h1 => r1 = some (.int (i32 (an_was hw rx a v f w))) ∧ Gr h h1 0 0 16 128) := by
  obtain ⟨⟨bs, z0⟩, z1, z2⟩ := id Z
  obtain ⟨v1, v2, v3, v4⟩ := id V
  by_cases q : (0 ≤ a ∧ a ≤ 7) ∧ (0 ≤ v ∧ v ≤ 20) ∧ (0 ≤ f ∧ f ≤ 9) ∧ (0 ≤ w ∧ w ≤ 1)
  · by_cases q2 : hw a.toNat = 2
    · obtain ⟨W, hya⟩ := V.row ⟨q.1, q2⟩
      have ea : an_was hw rx a v f w = if w = 0 then bt (wsB (rx a.toNat) v f) 0 8 else pop (bt (wsB (rx a.toNat) v f) 0 8).toNat := by unfold an_was; rw [if_pos q]; exact if_pos q2
      rw [ea]
      refine Ex_iload_n dX11_was_0 rfl rfl ?_
      refine Ex_stat 0 dX11_was_1 rfl rfl (Or.inl rfl) rfl rfl rfl rfl rfl rfl (Ex_post (x11_isShelf (by omega)) ?_)
      rintro _ _ ⟨rfl, e0⟩
      obtain rfl := Eq.symm e0
      refine Ex_if_eq (t := 37) dX11_was_4 rfl rfl (by omega) (fun c4 => absurd c4 (by omega)) (fun c4 => ?_)
      refine Ex_iload_n dX11_was_7 rfl rfl ?_
      refine Ex_iconst dX11_was_8 rfl ?_
      refine Ex_bipush dX11_was_9 rfl (by decide) ?_
      refine Ex_stat 0 dX11_was_11 rfl rfl (Or.inl rfl) rfl rfl rfl rfl rfl rfl (Ex_post (x11_within (by omega)) ?_)
      rintro _ _ ⟨rfl, e0⟩
      obtain rfl := Eq.symm e0
      refine Ex_if_eq (t := 37) dX11_was_14 rfl rfl (by omega) (fun c14 => absurd c14 (by omega)) (fun c14 => ?_)
      refine Ex_iload_n dX11_was_17 rfl rfl ?_
      refine Ex_iconst dX11_was_18 rfl ?_
      refine Ex_bipush dX11_was_19 rfl (by decide) ?_
      refine Ex_stat 0 dX11_was_21 rfl rfl (Or.inl rfl) rfl rfl rfl rfl rfl rfl (Ex_post (x11_within (by omega)) ?_)
      rintro _ _ ⟨rfl, e0⟩
      obtain rfl := Eq.symm e0
      refine Ex_if_eq (t := 37) dX11_was_24 rfl rfl (by omega) (fun c24 => absurd c24 (by omega)) (fun c24 => ?_)
      refine Ex_iload dX11_was_27 rfl rfl ?_
      refine Ex_iconst dX11_was_29 rfl ?_
      refine Ex_iconst dX11_was_30 rfl ?_
      refine Ex_stat 0 dX11_was_31 rfl rfl (Or.inl rfl) rfl rfl rfl rfl rfl rfl (Ex_post (x11_within (by omega)) ?_)
      rintro _ _ ⟨rfl, e0⟩
      obtain rfl := Eq.symm e0
      refine Ex_if_ne (t := 39) dX11_was_34 rfl rfl (by omega) (fun c34 => ?_) (fun c34 => absurd c34 (by omega))
      refine Ex_aload_n dX11_was_39 rfl rfl ?_
      refine Ex_iload_n dX11_was_40 rfl rfl ?_
      refine Ex_inv 2 dX11_was_41 rfl rfl (Or.inl rfl) rfl rfl rfl rfl z0 rfl rfl rfl (Ex_post (x11_rowOn Z V (by omega)) ?_)
      rintro _ _ ⟨rfl, e0⟩
      obtain rfl := Eq.symm e0
      rw [row_some ⟨q.1, q2⟩]
      refine Ex_astore (L2 := [_, _, _, _, _, _, _, _]) dX11_was_44 rfl rfl rfl ?_
      refine Ex_aload dX11_was_46 rfl rfl ?_
      refine Ex_ifnonnull (t := 57) dX11_was_48 rfl rfl ?_
      refine Ex_iconst dX11_was_57 rfl ?_
      refine Ex_istore (L2 := [_, _, _, _, _, _, _, _]) dX11_was_58 rfl rfl rfl ?_
      refine Ex_iconst dX11_was_60 rfl ?_
      refine Ex_istore (L2 := [_, _, _, _, _, _, _, _]) dX11_was_61 rfl rfl rfl ?_
      exact x11_was_l (by omega) q.2.1 q.2.2.1 q.2.2.2 8 0 h (by omega) wf W
    · refine Ex_iload_n dX11_was_0 rfl rfl ?_
      refine Ex_stat 0 dX11_was_1 rfl rfl (Or.inl rfl) rfl rfl rfl rfl rfl rfl (Ex_post (x11_isShelf (by omega)) ?_)
      rintro _ _ ⟨rfl, e0⟩
      obtain rfl := Eq.symm e0
      refine Ex_if_eq (t := 37) dX11_was_4 rfl rfl (by omega) (fun c4 => absurd c4 (by omega)) (fun c4 => ?_)
      refine Ex_iload_n dX11_was_7 rfl rfl ?_
      refine Ex_iconst dX11_was_8 rfl ?_
      refine Ex_bipush dX11_was_9 rfl (by decide) ?_
      refine Ex_stat 0 dX11_was_11 rfl rfl (Or.inl rfl) rfl rfl rfl rfl rfl rfl (Ex_post (x11_within (by omega)) ?_)
      rintro _ _ ⟨rfl, e0⟩
      obtain rfl := Eq.symm e0
      refine Ex_if_eq (t := 37) dX11_was_14 rfl rfl (by omega) (fun c14 => absurd c14 (by omega)) (fun c14 => ?_)
      refine Ex_iload_n dX11_was_17 rfl rfl ?_
      refine Ex_iconst dX11_was_18 rfl ?_
      refine Ex_bipush dX11_was_19 rfl (by decide) ?_
      refine Ex_stat 0 dX11_was_21 rfl rfl (Or.inl rfl) rfl rfl rfl rfl rfl rfl (Ex_post (x11_within (by omega)) ?_)
      rintro _ _ ⟨rfl, e0⟩
      obtain rfl := Eq.symm e0
      refine Ex_if_eq (t := 37) dX11_was_24 rfl rfl (by omega) (fun c24 => absurd c24 (by omega)) (fun c24 => ?_)
      refine Ex_iload dX11_was_27 rfl rfl ?_
      refine Ex_iconst dX11_was_29 rfl ?_
      refine Ex_iconst dX11_was_30 rfl ?_
      refine Ex_stat 0 dX11_was_31 rfl rfl (Or.inl rfl) rfl rfl rfl rfl rfl rfl (Ex_post (x11_within (by omega)) ?_)
      rintro _ _ ⟨rfl, e0⟩
      obtain rfl := Eq.symm e0
      refine Ex_if_ne (t := 39) dX11_was_34 rfl rfl (by omega) (fun c34 => ?_) (fun c34 => absurd c34 (by omega))
      refine Ex_aload_n dX11_was_39 rfl rfl ?_
      refine Ex_iload_n dX11_was_40 rfl rfl ?_
      refine Ex_inv 2 dX11_was_41 rfl rfl (Or.inl rfl) rfl rfl rfl rfl z0 rfl rfl rfl (Ex_post (x11_rowOn Z V (by omega)) ?_)
      rintro _ _ ⟨rfl, e0⟩
      obtain rfl := Eq.symm e0
      rw [row_none (fun z => q2 z.2)]
      refine Ex_astoreN (L2 := [_, _, _, _, _, _, _, _]) dX11_was_44 rfl rfl rfl ?_
      refine Ex_aloadN dX11_was_46 rfl rfl ?_
      refine Ex_ifnonnullN (t := 57) dX11_was_48 rfl rfl ?_
      refine Ex_aload_n dX11_was_51 rfl rfl ?_
      refine Ex_iload_n dX11_was_52 rfl rfl ?_
      refine Ex_inv 2 dX11_was_53 rfl rfl (Or.inl rfl) rfl rfl rfl rfl z0 rfl rfl rfl (Ex_post (x11_whyNot Z V (by omega)) ?_)
      rintro _ _ ⟨rfl, e0⟩
      obtain rfl := Eq.symm e0
      refine Ex_iret dX11_was_56 rfl rfl ?_
      exact ⟨ri (by unfold an_was; rw [if_pos q, if_neg q2]), Gr.rf wf _ _ _ _⟩
  · refine Ex_iload_n dX11_was_0 rfl rfl ?_
    refine Ex_stat 0 dX11_was_1 rfl rfl (Or.inl rfl) rfl rfl rfl rfl rfl rfl (Ex_post (x11_isShelf (by omega)) ?_)
    rintro _ _ ⟨rfl, e0⟩
    obtain rfl := Eq.symm e0
    refine Ex_if_eq (t := 37) dX11_was_4 rfl rfl (by omega) (fun c4 => ?_) (fun c4 => ?_)
    · refine Ex_iconst dX11_was_37 rfl ?_
      refine Ex_iret dX11_was_38 rfl rfl ?_
      exact ⟨ri (by unfold an_was; rw [if_neg q]), Gr.rf wf _ _ _ _⟩
    · refine Ex_iload_n dX11_was_7 rfl rfl ?_
      refine Ex_iconst dX11_was_8 rfl ?_
      refine Ex_bipush dX11_was_9 rfl (by decide) ?_
      refine Ex_stat 0 dX11_was_11 rfl rfl (Or.inl rfl) rfl rfl rfl rfl rfl rfl (Ex_post (x11_within (by omega)) ?_)
      rintro _ _ ⟨rfl, e0⟩
      obtain rfl := Eq.symm e0
      refine Ex_if_eq (t := 37) dX11_was_14 rfl rfl (by omega) (fun c14 => ?_) (fun c14 => ?_)
      · refine Ex_iconst dX11_was_37 rfl ?_
        refine Ex_iret dX11_was_38 rfl rfl ?_
        exact ⟨ri (by unfold an_was; rw [if_neg q]), Gr.rf wf _ _ _ _⟩
      · refine Ex_iload_n dX11_was_17 rfl rfl ?_
        refine Ex_iconst dX11_was_18 rfl ?_
        refine Ex_bipush dX11_was_19 rfl (by decide) ?_
        refine Ex_stat 0 dX11_was_21 rfl rfl (Or.inl rfl) rfl rfl rfl rfl rfl rfl (Ex_post (x11_within (by omega)) ?_)
        rintro _ _ ⟨rfl, e0⟩
        obtain rfl := Eq.symm e0
        refine Ex_if_eq (t := 37) dX11_was_24 rfl rfl (by omega) (fun c24 => ?_) (fun c24 => ?_)
        · refine Ex_iconst dX11_was_37 rfl ?_
          refine Ex_iret dX11_was_38 rfl rfl ?_
          exact ⟨ri (by unfold an_was; rw [if_neg q]), Gr.rf wf _ _ _ _⟩
        · refine Ex_iload dX11_was_27 rfl rfl ?_
          refine Ex_iconst dX11_was_29 rfl ?_
          refine Ex_iconst dX11_was_30 rfl ?_
          refine Ex_stat 0 dX11_was_31 rfl rfl (Or.inl rfl) rfl rfl rfl rfl rfl rfl (Ex_post (x11_within (by omega)) ?_)
          rintro _ _ ⟨rfl, e0⟩
          obtain rfl := Eq.symm e0
          refine Ex_if_ne (t := 39) dX11_was_34 rfl rfl (by omega) (fun c34 => ?_) (fun c34 => ?_)
          · exfalso; omega
          · refine Ex_iconst dX11_was_37 rfl ?_
            refine Ex_iret dX11_was_38 rfl rfl ?_
            exact ⟨ri (by unfold an_was; rw [if_neg q]), Gr.rf wf _ _ _ _⟩
