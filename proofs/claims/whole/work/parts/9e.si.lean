/-! the law's calls, both sides (by program: wip/whole/spec_si.py) -/
/-- what the class's call keeps -/
def K1 (h h1 : Hp) (x : Nat) : Prop := GW h h1 x 200 1600 ∧ ∀ q v, x + 57 ≤ q → q < x + 81 → h.1 q = some v → h1.1 q = some v
theorem K1.rf (h : Hp) (x : Nat) : K1 h h x := ⟨GW.rf _ _ _ _, fun _ _ _ _ e => e⟩
theorem FrS.k1 {h h1 : Hp} {x : Nat} (f : FrS h h1 x) : K1 h h1 x := ⟨f.gw _ _, fun q v h1 h2 e => (f.2 q (by omega)).trans e⟩
theorem Fr.k1 {h h1 : Hp} {x lo hi : Nat} (f : Fr h h1 lo hi) (hx : x ≤ lo) (hh : hi ≤ x + 57 ∨ x + 81 ≤ lo) : K1 h h1 x := ⟨f.gw hx _ _, fun q v h1 h2 e => (f.2 q (by omega)).trans e⟩
theorem Gr.k1 {h h1 : Hp} {x lo hi c s : Nat} (f : Gr h h1 lo hi c s) (hx : hi ≤ lo ∨ (x ≤ lo ∧ hi ≤ x + 57)) (hc : c ≤ 200) (hs : s ≤ 1600) : K1 h h1 x := ⟨f.gw (by omega) hc hs, fun q v h1 h2 e => f.2.2 q v (by omega) e⟩
theorem GX.k1 {h h1 : Hp} {x c s : Nat} (f : GX h h1 x c s) (hc : c ≤ 200) (hs : s ≤ 1600) : K1 h h1 x := ⟨f.gw hc hs, fun q v h1 h2 e => f.2.2 q v (by omega) (by omega) e⟩
theorem K1.mid {h h1 : Hp} {x : Nat} {X XI : RS} {hi : Int} {hw ck cf rs : Nat → Int} {rx : Nat → List Int} (k : K1 h h1 x) (R : RI h x X XI hi hw ck cf rs rx) (O : OCe h x) : GW h h1 x 200 1600 ∧ RI h1 x X XI hi hw ck cf rs rx ∧ OCe h1 x ∧ ∃ fs, h1.1 (x + 57) = some (12, fs) := by
  have R1 := R.ol (h1 := h1) (fun q v h1 h2 => k.2 q v h1 (by omega))
  refine ⟨k.1, R1, ?_, ?_⟩
  · obtain ⟨z, e⟩ := O
    exact ⟨z, k.2 _ _ (by omega) (by omega) e⟩
  · obtain ⟨σ, ⟨g, ρ, kp, M, -⟩, -⟩ := R1
    exact ⟨_, ma0 M⟩
/-- the class's side under the reference's calls -/
theorem CI.fr {h h1 : Hp} {x : Nat} {X XI : RS} {hi : Int} {hw ck cf rs : Nat → Int} {rx : Nat → List Int} (C : CI h x X XI hi hw ck cf rs rx) (f : Fr h h1 (x + 57) (x + 57 + 23)) : CI h1 x X XI hi hw ck cf rs rx := by
  obtain ⟨c1, ⟨kr, tu, c2⟩, ⟨c3, c4⟩, ⟨sa, c5⟩, c6, c7⟩ := C
  have e : ∀ q v, ¬ (x + 57 ≤ q ∧ q < x + 80) → h.1 q = some v → h1.1 q = some v := fun q v hq e => (f.2 q (by omega)).trans e
  refine ⟨c1.ol (fun q v hq => e q v (by omega)), ⟨kr, tu, c2.ol (fun q v hq => e q v (by omega))⟩, ⟨fun z => ?_, c4.ol (fun q v h1 h2 => e q v (by omega))⟩, ⟨sa, c5.ol (fun q v hq => e q v (by omega))⟩, f.wf c6 (by omega), by rw [f.1]; exact c7⟩
  obtain ⟨kr, tu, k⟩ := c3 z
  exact ⟨kr, tu, k.ol (fun q v hq => e q v (by omega))⟩
theorem pr_end {h1 h2 : Hp} {x : Nat} {X XI : RS} {hi : Int} {hw ck cf rs : Nat → Int} {rx : Nat → List Int} (P : PI X XI hi) (C1 : CI h1 x X XI hi hw ck cf rs rx) (O1 : OCe h1 x) (f : Fr h1 h2 (x + 57) (x + 57 + 23)) (R2 : RI h2 x X XI hi hw ck cf rs rx) : IN h2 x ∧ GW h1 h2 x 0 0 := by
  refine ⟨⟨X, XI, hi, hw, ck, cf, rs, rx, P, C1.fr f, R2, ?_⟩, f.gw (by omega) _ _⟩
  obtain ⟨z, e⟩ := O1
  exact ⟨z, (f.2 _ (by omega)).trans e⟩
/-- both sides answer alike -/
def PR (E : am_E) (D : Nat) (h : Hp) (x : Nat) (M1 : Mth) (L1 : List Value) (M2 : Mth) (L2 : List Value) : Prop := Ex E D M1 0 L1 [] h (fun r1 h1 => ∃ a : Int, r1 = some (.int (i32 a)) ∧ GW h h1 x 200 1600 ∧ (∃ fs, h1.1 (x + 57) = some (12, fs)) ∧ Ex E D M2 0 L2 [] h1 (fun r2 h2 => r2 = some (.int (i32 a)) ∧ IN h2 x ∧ GW h1 h2 x 0 0))
def PRl (E : am_E) (D : Nat) (h : Hp) (x : Nat) (M1 : Mth) (L1 : List Value) (M2 : Mth) (L2 : List Value) : Prop := Ex E D M1 0 L1 [] h (fun r1 h1 => ∃ a : Int, r1 = some (.long (i64 a)) ∧ GW h h1 x 200 1600 ∧ (∃ fs, h1.1 (x + 57) = some (12, fs)) ∧ Ex E D M2 0 L2 [] h1 (fun r2 h2 => r2 = some (.long (i64 a)) ∧ IN h2 x ∧ GW h1 h2 x 0 0))
theorem RK.ok {h : Hp} {r y : Nat} {tu : Int} {kr : Nat → Nat} {X : RS} (k : RK h r y tu kr X) (hm : 0 ≤ X.2.1 ∧ X.2.1 ≤ 999) : OKS X := by
  obtain ⟨n, m, K, F, T, S, C⟩ := X
  obtain ⟨a, b, c⟩ := k
  exact ⟨a.2.2.2.2, b, fun i hi => (c i hi).1.2.2, hm⟩
theorem PI.now {h : Hp} {x y : Nat} {X XI X2 : RS} {hi : Int} (P : PI X XI hi) (N : Now h x y X2) (hm : 0 ≤ X2.2.1 ∧ X2.2.1 ≤ 999) : PI X2 XI hi := by
  obtain ⟨kr, tu, k⟩ := N
  exact ⟨k.ok hm, P.2.1, P.2.2⟩
theorem m_feels {c w v : Int} {X : RS} : (do_feels c w v X).2.2.1 = X.2.1 := by
  obtain ⟨n, m, K, F, T, S, C⟩ := X
  unfold do_feels
  repeat' split
  all_goals rfl
theorem m_change {a b : Int} {X : RS} : (do_change a b X).2.2.1 = X.2.1 := by
  obtain ⟨n, m, K, F, T, S, C⟩ := X
  unfold do_change
  repeat' split
  all_goals rfl
theorem m_rest {w : Int} {X : RS} : (do_rest w X).2.2.1 = X.2.1 := by
  obtain ⟨n, m, K, F, T, S, C⟩ := X
  unfold do_rest
  repeat' split
  all_goals rfl
theorem m_comes {hw ck cf : Nat → Int} {d t : Int} {X : RS} : (do_comes hw ck cf d t X).2.2.1 = X.2.1 := by
  obtain ⟨n, m, K, F, T, S, C⟩ := X
  unfold do_comes
  repeat' split
  all_goals rfl
theorem m_minute {c w : Int} {X : RS} (h : 0 ≤ X.2.1 ∧ X.2.1 ≤ 999) : 0 ≤ (do_minute c w X).2.2.1 ∧ (do_minute c w X).2.2.1 ≤ 999 := by
  obtain ⟨n, m, K, F, T, S, C⟩ := X
  have h : 0 ≤ m ∧ m ≤ 999 := h
  unfold do_minute
  repeat' split
  all_goals first
    | exact h
    | (show 0 ≤ m + 1 ∧ m + 1 ≤ 999; rename_i q; have q2 : S c.toNat < 7 ∧ m < 999 := q; omega)
theorem m_ba {xs : List Int} : ∀ (k : Nat) (i told : Int) (X Y : RS), (0 ≤ X.2.1 ∧ X.2.1 ≤ 999) → (baL xs i told X k).2 = some Y → 0 ≤ Y.2.1 ∧ Y.2.1 ≤ 999
  | 0, i, told, X, Y, h, e => by
    injection e with e
    rw [← e]; exact h
  | k + 1, i, told, X, Y, h, e => by
    simp only [baL] at e
    split at e
    · split at e
      · cases e
      · rename_i Y2 ho
        exact m_ba k _ _ Y2 Y (ob_m ho h) e
    · injection e with e
      rw [← e]; exact h
theorem m_bath {hw rs : Nat → Int} {rx : Nat → List Int} {d : Int} {X : RS} (h : 0 ≤ X.2.1 ∧ X.2.1 ≤ 999) : 0 ≤ (do_bath hw rs rx d X).2.2.1 ∧ (do_bath hw rs rx d X).2.2.1 ≤ 999 := by
  unfold do_bath
  repeat' split
  · unfold do_text
    split
    · show 0 ≤ ((baL _ 0 0 X _).2.getD X).2.1 ∧ ((baL _ 0 0 X _).2.getD X).2.1 ≤ 999
      cases e : (baL (rx d.toNat) 0 0 X (rx d.toNat).length).2 with
      | none => exact h
      | some Y => exact m_ba _ _ _ X Y h e
    · exact h
  · exact h
  · exact h
theorem Sv.i16 {σ : Nat → Nat → Int} {hw ck cf rs : Nat → Int} {rx : Nat → List Int} {f : Nat → Int} (V : Sv σ hw ck cf rs rx) : Sv (fuR σ 16 f) hw ck cf rs rx := by
  intro d hd
  have h := V d hd
  rw [fuR_ne (show (6 : Nat) ≠ 16 by decide), fuR_ne (show (7 : Nat) ≠ 16 by decide), fuR_ne (show (8 : Nat) ≠ 16 by decide), fuR_ne (show (9 : Nat) ≠ 16 by decide), fuR_ne (show (10 : Nat) ≠ 16 by decide), fuR_ne (show (11 : Nat) ≠ 16 by decide)]
  exact h
theorem ktag_8 (k : Int) : ktag k ≠ 8 ∧ ktag k ≠ 20 := by
  unfold ktag
  repeat' split
  all_goals decide
theorem RK.row {h h1 : Hp} {r y a : Nat} {tu so : Int} {kr : Nat → Nat} {X : RS} {xs : List Int} (k : RK h r y tu kr X) (W : RowAt h a so xs) (f : Fr h h1 (a + 1) (a + 2)) (hr : r + 9 ≤ a) : RK h1 r y tu kr X := by
  obtain ⟨n, m, K, F, T, S, C⟩ := X
  obtain ⟨p, b, c⟩ := k
  refine ⟨p.ol (fun q v h1 h2 e => (f.2 q (by omega)).trans e), b, c.row f ⟨_, W.1⟩ (fun i hi => ?_)⟩
  obtain ⟨⟨k1, k2, k3⟩, d⟩ := c i hi
  constructor
  · intro e
    rw [e, W.1] at k1
    injection k1 with k1
    exact (ktag_8 (K i)).1 (congrArg Prod.fst k1).symm
  · intro e
    rw [e, W.2.1] at k1
    injection k1 with k1
    exact (ktag_8 (K i)).2 (congrArg Prod.fst k1).symm
theorem CI.w {h h1 : Hp} {x d : Nat} {X XI : RS} {hi : Int} {hw ck cf rs : Nat → Int} {rx rx2 : Nat → List Int} {sa : Nat → Nat} (C : CI h x X XI hi hw ck cf rs rx) (V : Shv h x (x + 81) hw ck cf rs rx sa) (hd : d < 8) (h2 : hw d = 2) (f : Fr h h1 (sa d + 1) (sa d + 2)) (V1 : Shv h1 x (x + 81) hw ck cf rs rx2 sa) (hya : x + 81 ≤ sa d) : CI h1 x X XI hi hw ck cf rs rx2 := by
  obtain ⟨c1, ⟨kr, tu, c2⟩, ⟨c3, c4⟩, -, c6, c7⟩ := C
  have W := (V.2.2.1 d hd).2.2.1 h2
  have hs : sa d + 1 < h.2.1 := c6.lt W.2.1
  have e : ∀ q v, q < x + 81 → h.1 q = some v → h1.1 q = some v := fun q v hq e => (f.2 q (by omega)).trans e
  refine ⟨c1.ol (fun q v hq => e q v (by omega)), ⟨kr, tu, c2.row W f (by omega)⟩, ⟨fun z => ?_, c4.ol (fun q v h1 h2 => e q v (by omega))⟩, ⟨sa, V1⟩, f.wf c6 (by omega), by rw [f.1]; exact c7⟩
  obtain ⟨kr, tu, k⟩ := c3 z
  exact ⟨kr, tu, k.row W f (by omega)⟩

theorem pr_child {E : am_E} {d x : Nat} {h : Hp} {p0 p1 : Int} (hB : E.2 ≤ x) (I : IN h x) (b0 : -2147483648 ≤ p0 ∧ p0 ≤ 2147483647) (b1 : -2147483648 ≤ p1 ∧ p1 ≤ 2147483647) : PR E (d + 20) h x mX11_child [.ref x, .int (i32 p0), .int (i32 p1), .retAddr 0] mX12_child [.ref (x + 57), .int (i32 p0), .int (i32 p1)] := by
  obtain ⟨X, XI, hi, hw, ck, cf, rs, rx, P, C, R, O⟩ := I
  obtain ⟨n, mm, K, F, T, S, C0⟩ := X
  obtain ⟨⟨hn6, hg, hK, hm9⟩, P2, P3⟩ := id P
  have hn6 : n ≤ 6 := hn6
  have hg : Rng n T S C0 := hg
  have hK : ∀ i, i < n → (0 ≤ K i ∧ K i ≤ 7) ∧ (0 ≤ F i ∧ F i ≤ 9) := hK
  have hm9 : 0 ≤ mm ∧ mm ≤ 999 := hm9
  obtain ⟨Z, ⟨kr, tu, Rr, -, ky⟩, CIr, ⟨sa, V⟩, w, hyh⟩ := id C
  refine Ex_post (x11_child Z Rr hg ky (by omega) (by omega) b0 b1) ?_
  rintro r1 h1 ⟨rfl, e0⟩
  obtain rfl := Eq.symm e0
  have C1 := C
  obtain ⟨gw, ⟨σ, MIh, SV, hI⟩, O1, hm⟩ := K1.mid (K1.rf h x) R O
  refine ⟨_, rfl, gw, hm, ?_⟩
  refine Ex_post (x12_child MIh hn6 hg hK (by omega) b0 b1) ?_
  rintro r2 h2 ⟨rfl, MI2, f2⟩
  exact ⟨rfl, pr_end P C1 O1 f2 ⟨σ, MI2, SV, hI⟩⟩
theorem pr_bands {E : am_E} {d x : Nat} {h : Hp} {p0 p1 p2 : Int} (hB : E.2 ≤ x) (I : IN h x) (b0 : -2147483648 ≤ p0 ∧ p0 ≤ 2147483647) (b1 : -2147483648 ≤ p1 ∧ p1 ≤ 2147483647) (b2 : -2147483648 ≤ p2 ∧ p2 ≤ 2147483647) : PR E (d + 20) h x mX11_bands [.ref x, .int (i32 p0), .int (i32 p1), .int (i32 p2), .retAddr 0, .retAddr 0, .retAddr 0, .retAddr 0] mX12_bands [.ref (x + 57), .int (i32 p0), .int (i32 p1), .int (i32 p2), .retAddr 0, .retAddr 0] := by
  obtain ⟨X, XI, hi, hw, ck, cf, rs, rx, P, C, R, O⟩ := I
  obtain ⟨n, mm, K, F, T, S, C0⟩ := X
  obtain ⟨⟨hn6, hg, hK, hm9⟩, P2, P3⟩ := id P
  have hn6 : n ≤ 6 := hn6
  have hg : Rng n T S C0 := hg
  have hK : ∀ i, i < n → (0 ≤ K i ∧ K i ≤ 7) ∧ (0 ≤ F i ∧ F i ≤ 9) := hK
  have hm9 : 0 ≤ mm ∧ mm ≤ 999 := hm9
  obtain ⟨Z, ⟨kr, tu, Rr, -, ky⟩, CIr, ⟨sa, V⟩, w, hyh⟩ := id C
  refine Ex_post (x11_bands Z Rr hg ky (by omega) (by omega) b0 b1 b2) ?_
  rintro r1 h1 ⟨rfl, e0⟩
  obtain rfl := Eq.symm e0
  have C1 := C
  obtain ⟨gw, ⟨σ, MIh, SV, hI⟩, O1, hm⟩ := K1.mid (K1.rf h x) R O
  refine ⟨_, rfl, gw, hm, ?_⟩
  refine Ex_post (x12_bands MIh hn6 hg hK (by omega) b0 b1 b2) ?_
  rintro r2 h2 ⟨rfl, MI2, f2⟩
  exact ⟨rfl, pr_end P C1 O1 f2 ⟨σ, MI2, SV, hI⟩⟩
theorem pr_dare {E : am_E} {d x : Nat} {h : Hp} {p0 p1 : Int} (hB : E.2 ≤ x) (I : IN h x) (b0 : -2147483648 ≤ p0 ∧ p0 ≤ 2147483647) (b1 : -2147483648 ≤ p1 ∧ p1 ≤ 2147483647) : PR E (d + 20) h x mX11_dare [.ref x, .int (i32 p0), .int (i32 p1), .retAddr 0, .retAddr 0] mX12_dare [.ref (x + 57), .int (i32 p0), .int (i32 p1), .retAddr 0, .retAddr 0, .retAddr 0, .retAddr 0] := by
  obtain ⟨X, XI, hi, hw, ck, cf, rs, rx, P, C, R, O⟩ := I
  obtain ⟨n, mm, K, F, T, S, C0⟩ := X
  obtain ⟨⟨hn6, hg, hK, hm9⟩, P2, P3⟩ := id P
  have hn6 : n ≤ 6 := hn6
  have hg : Rng n T S C0 := hg
  have hK : ∀ i, i < n → (0 ≤ K i ∧ K i ≤ 7) ∧ (0 ≤ F i ∧ F i ≤ 9) := hK
  have hm9 : 0 ≤ mm ∧ mm ≤ 999 := hm9
  obtain ⟨Z, ⟨kr, tu, Rr, -, ky⟩, CIr, ⟨sa, V⟩, w, hyh⟩ := id C
  refine Ex_post (x11_dare Z Rr hg ky (by omega) (by omega) b0 b1) ?_
  rintro r1 h1 ⟨rfl, e0⟩
  obtain rfl := Eq.symm e0
  have C1 := C
  obtain ⟨gw, ⟨σ, MIh, SV, hI⟩, O1, hm⟩ := K1.mid (K1.rf h x) R O
  refine ⟨_, rfl, gw, hm, ?_⟩
  refine Ex_post (x12_dare MIh hn6 hg hK (by omega) b0 b1) ?_
  rintro r2 h2 ⟨rfl, MI2, f2⟩
  exact ⟨rfl, pr_end P C1 O1 f2 ⟨σ, MI2, SV, hI⟩⟩
theorem pr_group {E : am_E} {d x : Nat} {h : Hp} {p0 p1 : Int} (hB : E.2 ≤ x) (I : IN h x) (b0 : -2147483648 ≤ p0 ∧ p0 ≤ 2147483647) (b1 : -2147483648 ≤ p1 ∧ p1 ≤ 2147483647) : PR E (d + 20) h x mX11_group [.ref x, .int (i32 p0), .int (i32 p1), .retAddr 0, .retAddr 0] mX12_group [.ref (x + 57), .int (i32 p0), .int (i32 p1), .retAddr 0, .retAddr 0, .retAddr 0, .retAddr 0] := by
  obtain ⟨X, XI, hi, hw, ck, cf, rs, rx, P, C, R, O⟩ := I
  obtain ⟨n, mm, K, F, T, S, C0⟩ := X
  obtain ⟨⟨hn6, hg, hK, hm9⟩, P2, P3⟩ := id P
  have hn6 : n ≤ 6 := hn6
  have hg : Rng n T S C0 := hg
  have hK : ∀ i, i < n → (0 ≤ K i ∧ K i ≤ 7) ∧ (0 ≤ F i ∧ F i ≤ 9) := hK
  have hm9 : 0 ≤ mm ∧ mm ≤ 999 := hm9
  obtain ⟨Z, ⟨kr, tu, Rr, -, ky⟩, CIr, ⟨sa, V⟩, w, hyh⟩ := id C
  refine Ex_post (x11_group Z Rr hg ky (by omega) (by omega) b0 b1) ?_
  rintro r1 h1 ⟨rfl, e0⟩
  obtain rfl := Eq.symm e0
  have C1 := C
  obtain ⟨gw, ⟨σ, MIh, SV, hI⟩, O1, hm⟩ := K1.mid (K1.rf h x) R O
  refine ⟨_, rfl, gw, hm, ?_⟩
  refine Ex_post (x12_group MIh hn6 hg hK (by omega) b0 b1) ?_
  rintro r2 h2 ⟨rfl, MI2, f2⟩
  exact ⟨rfl, pr_end P C1 O1 f2 ⟨σ, MI2, SV, hI⟩⟩
theorem pr_coldest {E : am_E} {d x : Nat} {h : Hp} {p0 p1 : Int} (hB : E.2 ≤ x) (I : IN h x) (b0 : -2147483648 ≤ p0 ∧ p0 ≤ 2147483647) (b1 : -2147483648 ≤ p1 ∧ p1 ≤ 2147483647) : PR E (d + 20) h x mX11_coldest [.ref x, .int (i32 p0), .int (i32 p1), .retAddr 0, .retAddr 0, .retAddr 0] mX12_coldest [.ref (x + 57), .int (i32 p0), .int (i32 p1), .retAddr 0, .retAddr 0] := by
  obtain ⟨X, XI, hi, hw, ck, cf, rs, rx, P, C, R, O⟩ := I
  obtain ⟨n, mm, K, F, T, S, C0⟩ := X
  obtain ⟨⟨hn6, hg, hK, hm9⟩, P2, P3⟩ := id P
  have hn6 : n ≤ 6 := hn6
  have hg : Rng n T S C0 := hg
  have hK : ∀ i, i < n → (0 ≤ K i ∧ K i ≤ 7) ∧ (0 ≤ F i ∧ F i ≤ 9) := hK
  have hm9 : 0 ≤ mm ∧ mm ≤ 999 := hm9
  obtain ⟨Z, ⟨kr, tu, Rr, -, ky⟩, CIr, ⟨sa, V⟩, w, hyh⟩ := id C
  refine Ex_post (x11_coldest Z Rr hg ky (by omega) (by omega) b0 b1) ?_
  rintro r1 h1 ⟨rfl, e0⟩
  obtain rfl := Eq.symm e0
  have C1 := C
  obtain ⟨gw, ⟨σ, MIh, SV, hI⟩, O1, hm⟩ := K1.mid (K1.rf h x) R O
  refine ⟨_, rfl, gw, hm, ?_⟩
  refine Ex_post (x12_coldest MIh hn6 hg hK (by omega) b0 b1) ?_
  rintro r2 h2 ⟨rfl, MI2, f2⟩
  exact ⟨rfl, pr_end P C1 O1 f2 ⟨σ, MI2, SV, hI⟩⟩
theorem pr_last {E : am_E} {d x : Nat} {h : Hp} (hB : E.2 ≤ x) (I : IN h x) : PR E (d + 20) h x mX11_last [.ref x, .retAddr 0, .retAddr 0] mX12_last [.ref (x + 57), .retAddr 0, .retAddr 0, .retAddr 0] := by
  obtain ⟨X, XI, hi, hw, ck, cf, rs, rx, P, C, R, O⟩ := I
  obtain ⟨n, mm, K, F, T, S, C0⟩ := X
  obtain ⟨⟨hn6, hg, hK, hm9⟩, P2, P3⟩ := id P
  have hn6 : n ≤ 6 := hn6
  have hg : Rng n T S C0 := hg
  have hK : ∀ i, i < n → (0 ≤ K i ∧ K i ≤ 7) ∧ (0 ≤ F i ∧ F i ≤ 9) := hK
  have hm9 : 0 ≤ mm ∧ mm ≤ 999 := hm9
  obtain ⟨Z, ⟨kr, tu, Rr, -, ky⟩, CIr, ⟨sa, V⟩, w, hyh⟩ := id C
  refine Ex_post (x11_last Z Rr hg ky (by omega) (by omega)) ?_
  rintro r1 h1 ⟨rfl, e0⟩
  obtain rfl := Eq.symm e0
  have C1 := C
  obtain ⟨gw, ⟨σ, MIh, SV, hI⟩, O1, hm⟩ := K1.mid (K1.rf h x) R O
  refine ⟨_, rfl, gw, hm, ?_⟩
  refine Ex_post (x12_last MIh hn6 hg hK (by omega)) ?_
  rintro r2 h2 ⟨rfl, MI2, f2⟩
  exact ⟨rfl, pr_end P C1 O1 f2 ⟨σ, MI2, SV, hI⟩⟩
theorem pr_count {E : am_E} {d x : Nat} {h : Hp} {p0 : Int} (hB : E.2 ≤ x) (I : IN h x) (b0 : -2147483648 ≤ p0 ∧ p0 ≤ 2147483647) : PR E (d + 20) h x mX11_count [.ref x, .int (i32 p0)] mX12_count [.ref (x + 57), .int (i32 p0), .retAddr 0, .retAddr 0] := by
  obtain ⟨X, XI, hi, hw, ck, cf, rs, rx, P, C, R, O⟩ := I
  obtain ⟨n, mm, K, F, T, S, C0⟩ := X
  obtain ⟨⟨hn6, hg, hK, hm9⟩, P2, P3⟩ := id P
  have hn6 : n ≤ 6 := hn6
  have hg : Rng n T S C0 := hg
  have hK : ∀ i, i < n → (0 ≤ K i ∧ K i ≤ 7) ∧ (0 ≤ F i ∧ F i ≤ 9) := hK
  have hm9 : 0 ≤ mm ∧ mm ≤ 999 := hm9
  obtain ⟨Z, ⟨kr, tu, Rr, -, ky⟩, CIr, ⟨sa, V⟩, w, hyh⟩ := id C
  refine Ex_post (x11_count Z Rr hg ky (by omega) (by omega) b0) ?_
  rintro r1 h1 ⟨rfl, e0⟩
  obtain rfl := Eq.symm e0
  have C1 := C
  obtain ⟨gw, ⟨σ, MIh, SV, hI⟩, O1, hm⟩ := K1.mid (K1.rf h x) R O
  refine ⟨_, rfl, gw, hm, ?_⟩
  refine Ex_post (x12_count MIh hn6 hg hK (by omega) b0) ?_
  rintro r2 h2 ⟨rfl, MI2, f2⟩
  exact ⟨rfl, pr_end P C1 O1 f2 ⟨σ, MI2, SV, hI⟩⟩
theorem pr_ready {E : am_E} {d x : Nat} {h : Hp} (hB : E.2 ≤ x) (I : IN h x) : PR E (d + 20) h x mX11_ready [.ref x] mX12_ready [.ref (x + 57)] := by
  obtain ⟨X, XI, hi, hw, ck, cf, rs, rx, P, C, R, O⟩ := I
  obtain ⟨n, mm, K, F, T, S, C0⟩ := X
  obtain ⟨⟨hn6, hg, hK, hm9⟩, P2, P3⟩ := id P
  have hn6 : n ≤ 6 := hn6
  have hg : Rng n T S C0 := hg
  have hK : ∀ i, i < n → (0 ≤ K i ∧ K i ≤ 7) ∧ (0 ≤ F i ∧ F i ≤ 9) := hK
  have hm9 : 0 ≤ mm ∧ mm ≤ 999 := hm9
  obtain ⟨Z, ⟨kr, tu, Rr, -, ky⟩, CIr, ⟨sa, V⟩, w, hyh⟩ := id C
  refine Ex_post (x11_ready Z Rr hg ky (by omega) (by omega)) ?_
  rintro r1 h1 ⟨rfl, e0⟩
  obtain rfl := Eq.symm e0
  have C1 := C
  obtain ⟨gw, ⟨σ, MIh, SV, hI⟩, O1, hm⟩ := K1.mid (K1.rf h x) R O
  refine ⟨_, rfl, gw, hm, ?_⟩
  refine Ex_post (x12_ready MIh hn6 hg hK (by omega)) ?_
  rintro r2 h2 ⟨rfl, MI2, f2⟩
  exact ⟨rfl, pr_end P C1 O1 f2 ⟨σ, MI2, SV, hI⟩⟩
theorem pr_helps {E : am_E} {d x : Nat} {h : Hp} (hB : E.2 ≤ x) (I : IN h x) : PR E (d + 20) h x mX11_helps [.ref x, .retAddr 0, .retAddr 0, .retAddr 0, .retAddr 0, .retAddr 0] mX12_helps [.ref (x + 57), .retAddr 0, .retAddr 0, .retAddr 0, .retAddr 0, .retAddr 0] := by
  obtain ⟨X, XI, hi, hw, ck, cf, rs, rx, P, C, R, O⟩ := I
  obtain ⟨n, mm, K, F, T, S, C0⟩ := X
  obtain ⟨⟨hn6, hg, hK, hm9⟩, P2, P3⟩ := id P
  have hn6 : n ≤ 6 := hn6
  have hg : Rng n T S C0 := hg
  have hK : ∀ i, i < n → (0 ≤ K i ∧ K i ≤ 7) ∧ (0 ≤ F i ∧ F i ≤ 9) := hK
  have hm9 : 0 ≤ mm ∧ mm ≤ 999 := hm9
  obtain ⟨Z, ⟨kr, tu, Rr, -, ky⟩, CIr, ⟨sa, V⟩, w, hyh⟩ := id C
  refine Ex_post (x11_helps Z Rr hg ky (by omega) (by omega)) ?_
  rintro r1 h1 ⟨rfl, e0⟩
  obtain rfl := Eq.symm e0
  have C1 := C
  obtain ⟨gw, ⟨σ, MIh, SV, hI⟩, O1, hm⟩ := K1.mid (K1.rf h x) R O
  refine ⟨_, rfl, gw, hm, ?_⟩
  refine Ex_post (x12_helps MIh hn6 hg hK (by omega)) ?_
  rintro r2 h2 ⟨rfl, MI2, f2⟩
  exact ⟨rfl, pr_end P C1 O1 f2 ⟨σ, MI2, SV, hI⟩⟩
theorem pr_frights {E : am_E} {d x : Nat} {h : Hp} {p0 p1 p2 p3 p4 : Int} (hB : E.2 ≤ x) (I : IN h x) (b0 : -2147483648 ≤ p0 ∧ p0 ≤ 2147483647) (b1 : -2147483648 ≤ p1 ∧ p1 ≤ 2147483647) (b2 : -2147483648 ≤ p2 ∧ p2 ≤ 2147483647) (b3 : -2147483648 ≤ p3 ∧ p3 ≤ 2147483647) (b4 : -2147483648 ≤ p4 ∧ p4 ≤ 2147483647) : PRl E (d + 20) h x mX11_frights [.ref x, .int (i32 p0), .int (i32 p1), .int (i32 p2), .int (i32 p3), .int (i32 p4), .retAddr 0, .retAddr 0, .retAddr 0, .retAddr 0, .retAddr 0] mX12_frights [.ref (x + 57), .int (i32 p0), .int (i32 p1), .int (i32 p2), .int (i32 p3), .int (i32 p4), .retAddr 0, .retAddr 0, .retAddr 0, .retAddr 0, .retAddr 0, .retAddr 0, .retAddr 0, .retAddr 0, .retAddr 0, .retAddr 0, .retAddr 0] := by
  obtain ⟨X, XI, hi, hw, ck, cf, rs, rx, P, C, R, O⟩ := I
  obtain ⟨n, mm, K, F, T, S, C0⟩ := X
  obtain ⟨⟨hn6, hg, hK, hm9⟩, P2, P3⟩ := id P
  have hn6 : n ≤ 6 := hn6
  have hg : Rng n T S C0 := hg
  have hK : ∀ i, i < n → (0 ≤ K i ∧ K i ≤ 7) ∧ (0 ≤ F i ∧ F i ≤ 9) := hK
  have hm9 : 0 ≤ mm ∧ mm ≤ 999 := hm9
  obtain ⟨Z, ⟨kr, tu, Rr, -, ky⟩, CIr, ⟨sa, V⟩, w, hyh⟩ := id C
  refine Ex_post (x11_frights Z Rr hg ky (by omega) (by omega) b0 b1 b2 b3 b4) ?_
  rintro r1 h1 ⟨rfl, e0⟩
  obtain rfl := Eq.symm e0
  have C1 := C
  obtain ⟨gw, ⟨σ, MIh, SV, hI⟩, O1, hm⟩ := K1.mid (K1.rf h x) R O
  refine ⟨_, rfl, gw, hm, ?_⟩
  refine Ex_post (x12_frights MIh hn6 hg hK (by omega) b0 b1 b2 b3 b4) ?_
  rintro r2 h2 ⟨rfl, MI2, f2⟩
  exact ⟨rfl, pr_end P C1 O1 f2 ⟨σ, MI2, SV, hI⟩⟩
theorem pr_mean {E : am_E} {d x : Nat} {h : Hp} {p0 : Int} (hB : E.2 ≤ x) (I : IN h x) (b0 : -2147483648 ≤ p0 ∧ p0 ≤ 2147483647) : PRl E (d + 20) h x mX11_mean [.ref x, .int (i32 p0)] mX12_mean [.ref (x + 57), .int (i32 p0)] := by
  obtain ⟨X, XI, hi, hw, ck, cf, rs, rx, P, C, R, O⟩ := I
  obtain ⟨n, mm, K, F, T, S, C0⟩ := X
  obtain ⟨⟨hn6, hg, hK, hm9⟩, P2, P3⟩ := id P
  have hn6 : n ≤ 6 := hn6
  have hg : Rng n T S C0 := hg
  have hK : ∀ i, i < n → (0 ≤ K i ∧ K i ≤ 7) ∧ (0 ≤ F i ∧ F i ≤ 9) := hK
  have hm9 : 0 ≤ mm ∧ mm ≤ 999 := hm9
  obtain ⟨Z, ⟨kr, tu, Rr, -, ky⟩, CIr, ⟨sa, V⟩, w, hyh⟩ := id C
  refine Ex_post (x11_mean Z Rr hg ky (by omega) (by omega) b0) ?_
  rintro r1 h1 ⟨rfl, e0⟩
  obtain rfl := Eq.symm e0
  have C1 := C
  obtain ⟨gw, ⟨σ, MIh, SV, hI⟩, O1, hm⟩ := K1.mid (K1.rf h x) R O
  refine ⟨_, rfl, gw, hm, ?_⟩
  refine Ex_post (x12_mean MIh hn6 hg hK (by omega) b0) ?_
  rintro r2 h2 ⟨rfl, MI2, f2⟩
  exact ⟨rfl, pr_end P C1 O1 f2 ⟨σ, MI2, SV, hI⟩⟩
theorem pr_alone {E : am_E} {d x : Nat} {h : Hp} {p0 p1 : Int} (hB : E.2 ≤ x) (I : IN h x) (b0 : -2147483648 ≤ p0 ∧ p0 ≤ 2147483647) (b1 : -2147483648 ≤ p1 ∧ p1 ≤ 2147483647) : PR E (d + 20) h x mX11_alone [.ref x, .int (i32 p0), .int (i32 p1), .retAddr 0] mX12_alone [.ref (x + 57), .int (i32 p0), .int (i32 p1), .retAddr 0, .retAddr 0] := by
  obtain ⟨X, XI, hi, hw, ck, cf, rs, rx, P, C, R, O⟩ := I
  obtain ⟨n, mm, K, F, T, S, C0⟩ := X
  obtain ⟨⟨hn6, hg, hK, hm9⟩, P2, P3⟩ := id P
  have hn6 : n ≤ 6 := hn6
  have hg : Rng n T S C0 := hg
  have hK : ∀ i, i < n → (0 ≤ K i ∧ K i ≤ 7) ∧ (0 ≤ F i ∧ F i ≤ 9) := hK
  have hm9 : 0 ≤ mm ∧ mm ≤ 999 := hm9
  obtain ⟨Z, ⟨kr, tu, Rr, -, ky⟩, CIr, ⟨sa, V⟩, w, hyh⟩ := id C
  refine Ex_post (x11_alone Z Rr hg ky (by omega) (by omega) b0 b1) ?_
  rintro r1 h1 ⟨rfl, Z1, f1⟩
  have C1 := (C.q Z1 f1)
  obtain ⟨gw, ⟨σ, MIh, SV, hI⟩, O1, hm⟩ := K1.mid f1.k1 R O
  refine ⟨_, rfl, gw, hm, ?_⟩
  refine Ex_post (x12_alone MIh hn6 hg hK (by omega) b0 b1) ?_
  rintro r2 h2 ⟨rfl, MI2, f2⟩
  exact ⟨rfl, pr_end P C1 O1 f2 ⟨σ, MI2, SV, hI⟩⟩
theorem pr_neverHeld {E : am_E} {d x : Nat} {h : Hp} {p0 : Int} (hB : E.2 ≤ x) (I : IN h x) (b0 : -2147483648 ≤ p0 ∧ p0 ≤ 2147483647) : PR E (d + 20) h x mX11_neverHeld [.ref x, .int (i32 p0)] mX12_neverHeld [.ref (x + 57), .int (i32 p0)] := by
  obtain ⟨X, XI, hi, hw, ck, cf, rs, rx, P, C, R, O⟩ := I
  obtain ⟨n, mm, K, F, T, S, C0⟩ := X
  obtain ⟨⟨hn6, hg, hK, hm9⟩, P2, P3⟩ := id P
  have hn6 : n ≤ 6 := hn6
  have hg : Rng n T S C0 := hg
  have hK : ∀ i, i < n → (0 ≤ K i ∧ K i ≤ 7) ∧ (0 ≤ F i ∧ F i ≤ 9) := hK
  have hm9 : 0 ≤ mm ∧ mm ≤ 999 := hm9
  obtain ⟨Z, ⟨kr, tu, Rr, -, ky⟩, CIr, ⟨sa, V⟩, w, hyh⟩ := id C
  refine Ex_post (x11_never Z Rr hg ky (by omega) (by omega) b0) ?_
  rintro r1 h1 ⟨rfl, Z1, f1⟩
  have C1 := (C.q Z1 f1)
  obtain ⟨gw, ⟨σ, MIh, SV, hI⟩, O1, hm⟩ := K1.mid f1.k1 R O
  refine ⟨_, rfl, gw, hm, ?_⟩
  refine Ex_post (x12_neverHeld MIh hn6 hg hK (by omega) b0) ?_
  rintro r2 h2 ⟨rfl, MI2, f2⟩
  exact ⟨rfl, pr_end P C1 O1 f2 ⟨σ, MI2, SV, hI⟩⟩
theorem pr_mostSteps {E : am_E} {d x : Nat} {h : Hp} {p0 p1 : Int} (hB : E.2 ≤ x) (I : IN h x) (b0 : -2147483648 ≤ p0 ∧ p0 ≤ 2147483647) (b1 : -2147483648 ≤ p1 ∧ p1 ≤ 2147483647) : PR E (d + 20) h x mX11_mostSteps [.ref x, .int (i32 p0), .int (i32 p1), .retAddr 0] mX12_mostSteps [.ref (x + 57), .int (i32 p0), .int (i32 p1)] := by
  obtain ⟨X, XI, hi, hw, ck, cf, rs, rx, P, C, R, O⟩ := I
  obtain ⟨n, mm, K, F, T, S, C0⟩ := X
  obtain ⟨⟨hn6, hg, hK, hm9⟩, P2, P3⟩ := id P
  have hn6 : n ≤ 6 := hn6
  have hg : Rng n T S C0 := hg
  have hK : ∀ i, i < n → (0 ≤ K i ∧ K i ≤ 7) ∧ (0 ≤ F i ∧ F i ≤ 9) := hK
  have hm9 : 0 ≤ mm ∧ mm ≤ 999 := hm9
  obtain ⟨Z, ⟨kr, tu, Rr, -, ky⟩, CIr, ⟨sa, V⟩, w, hyh⟩ := id C
  refine Ex_post (x11_mostSteps Z Rr hg ky (by omega) (by omega) b0 b1) ?_
  rintro r1 h1 ⟨rfl, Z1, f1⟩
  have C1 := (C.q Z1 f1)
  obtain ⟨gw, ⟨σ, MIh, SV, hI⟩, O1, hm⟩ := K1.mid f1.k1 R O
  refine ⟨_, rfl, gw, hm, ?_⟩
  refine Ex_post (x12_mostSteps MIh hn6 hg hK (by omega) b0 b1) ?_
  rintro r2 h2 ⟨rfl, MI2, f2⟩
  exact ⟨rfl, pr_end P C1 O1 f2 ⟨σ, MI2, SV, hI⟩⟩
theorem pr_byTurns {E : am_E} {d x : Nat} {h : Hp} {p0 p1 : Int} (hB : E.2 ≤ x) (I : IN h x) (b0 : -2147483648 ≤ p0 ∧ p0 ≤ 2147483647) (b1 : -2147483648 ≤ p1 ∧ p1 ≤ 2147483647) : PR E (d + 20) h x mX11_byTurns [.ref x, .int (i32 p0), .int (i32 p1), .retAddr 0, .retAddr 0, .retAddr 0] mX12_byTurns [.ref (x + 57), .int (i32 p0), .int (i32 p1), .retAddr 0, .retAddr 0] := by
  obtain ⟨X, XI, hi, hw, ck, cf, rs, rx, P, C, R, O⟩ := I
  obtain ⟨n, mm, K, F, T, S, C0⟩ := X
  obtain ⟨⟨hn6, hg, hK, hm9⟩, P2, P3⟩ := id P
  have hn6 : n ≤ 6 := hn6
  have hg : Rng n T S C0 := hg
  have hK : ∀ i, i < n → (0 ≤ K i ∧ K i ≤ 7) ∧ (0 ≤ F i ∧ F i ≤ 9) := hK
  have hm9 : 0 ≤ mm ∧ mm ≤ 999 := hm9
  obtain ⟨Z, ⟨kr, tu, Rr, -, ky⟩, CIr, ⟨sa, V⟩, w, hyh⟩ := id C
  refine Ex_post (x11_byTurns Z Rr hg ky (by omega) (by omega) b0 b1) ?_
  rintro r1 h1 ⟨rfl, Z1, f1⟩
  have C1 := (C.q Z1 f1)
  obtain ⟨gw, ⟨σ, MIh, SV, hI⟩, O1, hm⟩ := K1.mid f1.k1 R O
  refine ⟨_, rfl, gw, hm, ?_⟩
  refine Ex_post (x12_byTurns MIh hn6 hg hK (by omega) b0 b1) ?_
  rintro r2 h2 ⟨rfl, MI2, f2⟩
  exact ⟨rfl, pr_end P C1 O1 f2 ⟨σ, MI2, SV, hI⟩⟩
theorem pr_allSwim {E : am_E} {d x : Nat} {h : Hp} (hB : E.2 ≤ x) (I : IN h x) : PR E (d + 20) h x mX11_allSwim [.ref x, .retAddr 0, .retAddr 0] mX12_allSwim [.ref (x + 57), .retAddr 0, .retAddr 0] := by
  obtain ⟨X, XI, hi, hw, ck, cf, rs, rx, P, C, R, O⟩ := I
  obtain ⟨n, mm, K, F, T, S, C0⟩ := X
  obtain ⟨⟨hn6, hg, hK, hm9⟩, P2, P3⟩ := id P
  have hn6 : n ≤ 6 := hn6
  have hg : Rng n T S C0 := hg
  have hK : ∀ i, i < n → (0 ≤ K i ∧ K i ≤ 7) ∧ (0 ≤ F i ∧ F i ≤ 9) := hK
  have hm9 : 0 ≤ mm ∧ mm ≤ 999 := hm9
  obtain ⟨Z, ⟨kr, tu, Rr, -, ky⟩, CIr, ⟨sa, V⟩, w, hyh⟩ := id C
  refine Ex_post (x11_allSwim Z Rr hg ky (by omega) (by omega)) ?_
  rintro r1 h1 ⟨rfl, Z1, f1⟩
  have C1 := (C.q Z1 f1)
  obtain ⟨gw, ⟨σ, MIh, SV, hI⟩, O1, hm⟩ := K1.mid f1.k1 R O
  refine ⟨_, rfl, gw, hm, ?_⟩
  refine Ex_post (x12_allSwim MIh hn6 hg hK (by omega)) ?_
  rintro r2 h2 ⟨rfl, MI2, f2⟩
  exact ⟨rfl, pr_end P C1 O1 f2 ⟨σ, MI2, SV, hI⟩⟩
theorem pr_costs {E : am_E} {d x : Nat} {h : Hp} {p0 : Int} (hB : E.2 ≤ x) (I : IN h x) (b0 : -2147483648 ≤ p0 ∧ p0 ≤ 2147483647) : PR E (d + 20) h x mX11_costs [.ref x, .int (i32 p0), .retAddr 0, .retAddr 0] mX12_costs [.ref (x + 57), .int (i32 p0), .retAddr 0, .retAddr 0] := by
  obtain ⟨X, XI, hi, hw, ck, cf, rs, rx, P, C, R, O⟩ := I
  obtain ⟨n, mm, K, F, T, S, C0⟩ := X
  obtain ⟨⟨hn6, hg, hK, hm9⟩, P2, P3⟩ := id P
  have hn6 : n ≤ 6 := hn6
  have hg : Rng n T S C0 := hg
  have hK : ∀ i, i < n → (0 ≤ K i ∧ K i ≤ 7) ∧ (0 ≤ F i ∧ F i ≤ 9) := hK
  have hm9 : 0 ≤ mm ∧ mm ≤ 999 := hm9
  obtain ⟨Z, ⟨kr, tu, Rr, -, ky⟩, CIr, ⟨sa, V⟩, w, hyh⟩ := id C
  refine Ex_post (x11_costs Z Rr hg ky (by omega) (by omega) b0) ?_
  rintro r1 h1 ⟨rfl, Z1, f1⟩
  have C1 := (C.q Z1 f1)
  obtain ⟨gw, ⟨σ, MIh, SV, hI⟩, O1, hm⟩ := K1.mid f1.k1 R O
  refine ⟨_, rfl, gw, hm, ?_⟩
  refine Ex_post (x12_costs MIh hn6 hg hK (by omega) b0) ?_
  rintro r2 h2 ⟨rfl, MI2, f2⟩
  exact ⟨rfl, pr_end P C1 O1 f2 ⟨σ, MI2, SV, hI⟩⟩
theorem pr_forget {E : am_E} {d x : Nat} {h : Hp} (hB : E.2 ≤ x) (I : IN h x) : PR E (d + 20) h x mX11_forget [.ref x, .retAddr 0, .retAddr 0] mX12_forget [.ref (x + 57), .retAddr 0, .retAddr 0] := by
  obtain ⟨X, XI, hi, hw, ck, cf, rs, rx, P, C, R, O⟩ := I
  obtain ⟨n, mm, K, F, T, S, C0⟩ := X
  obtain ⟨⟨hn6, hg, hK, hm9⟩, P2, P3⟩ := id P
  have hn6 : n ≤ 6 := hn6
  have hg : Rng n T S C0 := hg
  have hK : ∀ i, i < n → (0 ≤ K i ∧ K i ≤ 7) ∧ (0 ≤ F i ∧ F i ≤ 9) := hK
  have hm9 : 0 ≤ mm ∧ mm ≤ 999 := hm9
  obtain ⟨Z, ⟨kr, tu, Rr, -, ky⟩, CIr, ⟨sa, V⟩, w, hyh⟩ := id C
  refine Ex_post (x11_forget Z Rr hg ky (by omega) (by omega)) ?_
  rintro r1 h1 ⟨rfl, Z1, f1⟩
  have C1 := (C.q Z1 f1)
  obtain ⟨gw, ⟨σ, MIh, SV, hI⟩, O1, hm⟩ := K1.mid f1.k1 R O
  refine ⟨_, rfl, gw, hm, ?_⟩
  refine Ex_post (x12_forget MIh hn6 hg hK (by omega)) ?_
  rintro r2 h2 ⟨rfl, MI2, f2⟩
  exact ⟨rfl, pr_end P C1 O1 f2 ⟨σ, MI2, SV, hI⟩⟩
theorem pr_cost {E : am_E} {d x : Nat} {h : Hp} {p0 : Int} (hB : E.2 ≤ x) (I : IN h x) (b0 : -2147483648 ≤ p0 ∧ p0 ≤ 2147483647) : PR E (d + 20) h x mX11_cost [.ref x, .int (i32 p0), .retAddr 0] mX12_cost [.ref (x + 57), .int (i32 p0)] := by
  obtain ⟨X, XI, hi, hw, ck, cf, rs, rx, P, C, R, O⟩ := I
  obtain ⟨n, mm, K, F, T, S, C0⟩ := X
  obtain ⟨⟨hn6, hg, hK, hm9⟩, P2, P3⟩ := id P
  have hn6 : n ≤ 6 := hn6
  have hg : Rng n T S C0 := hg
  have hK : ∀ i, i < n → (0 ≤ K i ∧ K i ≤ 7) ∧ (0 ≤ F i ∧ F i ≤ 9) := hK
  have hm9 : 0 ≤ mm ∧ mm ≤ 999 := hm9
  obtain ⟨Z, ⟨kr, tu, Rr, -, ky⟩, CIr, ⟨sa, V⟩, w, hyh⟩ := id C
  refine Ex_post (x11_cost Z V b0) ?_
  rintro r1 h1 ⟨rfl, e0⟩
  obtain rfl := Eq.symm e0
  have C1 := C
  obtain ⟨gw, ⟨σ, MIh, SV, hI⟩, O1, hm⟩ := K1.mid (K1.rf h x) R O
  refine ⟨_, rfl, gw, hm, ?_⟩
  refine Ex_post (x12_cost MIh hn6 hg hK (by omega) SV b0) ?_
  rintro r2 h2 ⟨rfl, ⟨σ2, MI2, SV2, e16⟩, f2⟩
  exact ⟨rfl, pr_end P C1 O1 f2 ⟨σ2, MI2, SV2, by rw [e16]; exact hI⟩⟩
theorem pr_forged {E : am_E} {d x : Nat} {h : Hp} {p0 : Int} (hB : E.2 ≤ x) (I : IN h x) (b0 : -2147483648 ≤ p0 ∧ p0 ≤ 2147483647) : PR E (d + 20) h x mX11_forged [.ref x, .int (i32 p0), .retAddr 0, .retAddr 0, .retAddr 0, .retAddr 0, .retAddr 0] mX12_forged [.ref (x + 57), .int (i32 p0), .retAddr 0, .retAddr 0, .retAddr 0, .retAddr 0, .retAddr 0, .retAddr 0, .retAddr 0, .retAddr 0] := by
  obtain ⟨X, XI, hi, hw, ck, cf, rs, rx, P, C, R, O⟩ := I
  obtain ⟨n, mm, K, F, T, S, C0⟩ := X
  obtain ⟨⟨hn6, hg, hK, hm9⟩, P2, P3⟩ := id P
  have hn6 : n ≤ 6 := hn6
  have hg : Rng n T S C0 := hg
  have hK : ∀ i, i < n → (0 ≤ K i ∧ K i ≤ 7) ∧ (0 ≤ F i ∧ F i ≤ 9) := hK
  have hm9 : 0 ≤ mm ∧ mm ≤ 999 := hm9
  obtain ⟨Z, ⟨kr, tu, Rr, -, ky⟩, CIr, ⟨sa, V⟩, w, hyh⟩ := id C
  refine Ex_post (x11_forged Z Rr hg ky (by omega) (by omega) V b0) ?_
  rintro r1 h1 ⟨rfl, Z1, f1⟩
  have C1 := (C.q Z1 f1)
  obtain ⟨gw, ⟨σ, MIh, SV, hI⟩, O1, hm⟩ := K1.mid f1.k1 R O
  refine ⟨_, rfl, gw, hm, ?_⟩
  refine Ex_post (x12_forged MIh hn6 hg hK (by omega) SV b0) ?_
  rintro r2 h2 ⟨rfl, ⟨σ2, MI2, SV2, e16⟩, f2⟩
  exact ⟨rfl, pr_end P C1 O1 f2 ⟨σ2, MI2, SV2, by rw [e16]; exact hI⟩⟩
theorem pr_judge {E : am_E} {d x : Nat} {h : Hp} {p0 p1 : Int} (hB : E.2 ≤ x) (I : IN h x) (b0 : -2147483648 ≤ p0 ∧ p0 ≤ 2147483647) (b1 : -2147483648 ≤ p1 ∧ p1 ≤ 2147483647) : PR E (d + 20) h x mX11_judge [.ref x, .int (i32 p0), .int (i32 p1), .retAddr 0, .retAddr 0, .retAddr 0] mX12_judge [.ref (x + 57), .int (i32 p0), .int (i32 p1), .retAddr 0, .retAddr 0, .retAddr 0, .retAddr 0, .retAddr 0] := by
  obtain ⟨X, XI, hi, hw, ck, cf, rs, rx, P, C, R, O⟩ := I
  obtain ⟨n, mm, K, F, T, S, C0⟩ := X
  obtain ⟨⟨hn6, hg, hK, hm9⟩, P2, P3⟩ := id P
  have hn6 : n ≤ 6 := hn6
  have hg : Rng n T S C0 := hg
  have hK : ∀ i, i < n → (0 ≤ K i ∧ K i ≤ 7) ∧ (0 ≤ F i ∧ F i ≤ 9) := hK
  have hm9 : 0 ≤ mm ∧ mm ≤ 999 := hm9
  obtain ⟨Z, ⟨kr, tu, Rr, -, ky⟩, CIr, ⟨sa, V⟩, w, hyh⟩ := id C
  refine Ex_post (x11_judge Z Rr hg ky (by omega) (by omega) V b0 b1) ?_
  rintro r1 h1 ⟨rfl, Z1, f1⟩
  have C1 := (C.q Z1 f1)
  obtain ⟨gw, ⟨σ, MIh, SV, hI⟩, O1, hm⟩ := K1.mid f1.k1 R O
  refine ⟨_, rfl, gw, hm, ?_⟩
  refine Ex_post (x12_judge MIh hn6 hg hK (by omega) SV b0 b1) ?_
  rintro r2 h2 ⟨rfl, ⟨σ2, MI2, SV2, e16⟩, f2⟩
  exact ⟨rfl, pr_end P C1 O1 f2 ⟨σ2, MI2, SV2, by rw [e16]; exact hI⟩⟩
theorem pr_was {E : am_E} {d x : Nat} {h : Hp} {p0 p1 p2 p3 : Int} (hB : E.2 ≤ x) (I : IN h x) (b0 : -2147483648 ≤ p0 ∧ p0 ≤ 2147483647) (b1 : -2147483648 ≤ p1 ∧ p1 ≤ 2147483647) (b2 : -2147483648 ≤ p2 ∧ p2 ≤ 2147483647) (b3 : -2147483648 ≤ p3 ∧ p3 ≤ 2147483647) : PR E (d + 20) h x mX11_was [.ref x, .int (i32 p0), .int (i32 p1), .int (i32 p2), .int (i32 p3), .retAddr 0, .retAddr 0, .retAddr 0] mX12_was [.ref (x + 57), .int (i32 p0), .int (i32 p1), .int (i32 p2), .int (i32 p3), .retAddr 0, .retAddr 0, .retAddr 0, .retAddr 0, .retAddr 0] := by
  obtain ⟨X, XI, hi, hw, ck, cf, rs, rx, P, C, R, O⟩ := I
  obtain ⟨n, mm, K, F, T, S, C0⟩ := X
  obtain ⟨⟨hn6, hg, hK, hm9⟩, P2, P3⟩ := id P
  have hn6 : n ≤ 6 := hn6
  have hg : Rng n T S C0 := hg
  have hK : ∀ i, i < n → (0 ≤ K i ∧ K i ≤ 7) ∧ (0 ≤ F i ∧ F i ≤ 9) := hK
  have hm9 : 0 ≤ mm ∧ mm ≤ 999 := hm9
  obtain ⟨Z, ⟨kr, tu, Rr, -, ky⟩, CIr, ⟨sa, V⟩, w, hyh⟩ := id C
  refine Ex_post (x11_was Z V w (by omega) (by omega) hyh b0 b1 b2 b3) ?_
  rintro r1 h1 ⟨rfl, f1⟩
  have C1 := (C.n f1)
  obtain ⟨gw, ⟨σ, MIh, SV, hI⟩, O1, hm⟩ := K1.mid (f1.k1 (Or.inl (by omega)) (by omega) (by omega)) R O
  refine ⟨_, rfl, gw, hm, ?_⟩
  refine Ex_post (x12_was MIh hn6 hg hK (by omega) SV b0 b1 b2 b3) ?_
  rintro r2 h2 ⟨rfl, ⟨σ2, MI2, SV2, e16⟩, f2⟩
  exact ⟨rfl, pr_end P C1 O1 f2 ⟨σ2, MI2, SV2, by rw [e16]; exact hI⟩⟩
theorem pr_feels {E : am_E} {d x : Nat} {h : Hp} {p0 p1 p2 : Int} (hB : E.2 ≤ x) (I : IN h x) (b0 : -2147483648 ≤ p0 ∧ p0 ≤ 2147483647) (b1 : -2147483648 ≤ p1 ∧ p1 ≤ 2147483647) (b2 : -2147483648 ≤ p2 ∧ p2 ≤ 2147483647) : PR E (d + 20) h x mX11_feels [.ref x, .int (i32 p0), .int (i32 p1), .int (i32 p2), .retAddr 0, .retAddr 0] mX12_feels [.ref (x + 57), .int (i32 p0), .int (i32 p1), .int (i32 p2), .retAddr 0] := by
  obtain ⟨X, XI, hi, hw, ck, cf, rs, rx, P, C, R, O⟩ := I
  obtain ⟨n, mm, K, F, T, S, C0⟩ := X
  obtain ⟨⟨hn6, hg, hK, hm9⟩, P2, P3⟩ := id P
  have hn6 : n ≤ 6 := hn6
  have hg : Rng n T S C0 := hg
  have hK : ∀ i, i < n → (0 ≤ K i ∧ K i ≤ 7) ∧ (0 ≤ F i ∧ F i ≤ 9) := hK
  have hm9 : 0 ≤ mm ∧ mm ≤ 999 := hm9
  obtain ⟨Z, ⟨kr, tu, Rr, -, ky⟩, CIr, ⟨sa, V⟩, w, hyh⟩ := id C
  refine Ex_post (x11_feels Z Rr hg ky (by omega) (by omega) b0 b1 b2) ?_
  rintro r1 h1 ⟨rfl, N1, f1⟩
  have C1 := (C.p N1 f1)
  obtain ⟨gw, ⟨σ, MIh, SV, hI⟩, O1, hm⟩ := K1.mid (f1.k1 (by omega) (by omega)) R O
  refine ⟨_, rfl, gw, hm, ?_⟩
  refine Ex_post (x12_feels MIh hn6 hg hK (by omega) b0 b1 b2) ?_
  rintro r2 h2 ⟨rfl, MI2, f2⟩
  exact ⟨rfl, pr_end (P.now N1 (by rw [m_feels]; exact hm9)) C1 O1 f2 ⟨σ, MI2, SV, hI⟩⟩
theorem pr_change {E : am_E} {d x : Nat} {h : Hp} {p0 p1 : Int} (hB : E.2 ≤ x) (I : IN h x) (b0 : -2147483648 ≤ p0 ∧ p0 ≤ 2147483647) (b1 : -2147483648 ≤ p1 ∧ p1 ≤ 2147483647) : PR E (d + 20) h x mX11_change [.ref x, .int (i32 p0), .int (i32 p1)] mX12_change [.ref (x + 57), .int (i32 p0), .int (i32 p1)] := by
  obtain ⟨X, XI, hi, hw, ck, cf, rs, rx, P, C, R, O⟩ := I
  obtain ⟨n, mm, K, F, T, S, C0⟩ := X
  obtain ⟨⟨hn6, hg, hK, hm9⟩, P2, P3⟩ := id P
  have hn6 : n ≤ 6 := hn6
  have hg : Rng n T S C0 := hg
  have hK : ∀ i, i < n → (0 ≤ K i ∧ K i ≤ 7) ∧ (0 ≤ F i ∧ F i ≤ 9) := hK
  have hm9 : 0 ≤ mm ∧ mm ≤ 999 := hm9
  obtain ⟨Z, ⟨kr, tu, Rr, -, ky⟩, CIr, ⟨sa, V⟩, w, hyh⟩ := id C
  refine Ex_post (x11_change Z Rr hg ky (by omega) (by omega) b0 b1) ?_
  rintro r1 h1 ⟨rfl, N1, f1⟩
  have C1 := (C.p N1 f1)
  obtain ⟨gw, ⟨σ, MIh, SV, hI⟩, O1, hm⟩ := K1.mid (f1.k1 (by omega) (by omega)) R O
  refine ⟨_, rfl, gw, hm, ?_⟩
  refine Ex_post (x12_change MIh hn6 hg hK (by omega) b0 b1) ?_
  rintro r2 h2 ⟨rfl, MI2, f2⟩
  exact ⟨rfl, pr_end (P.now N1 (by rw [m_change]; exact hm9)) C1 O1 f2 ⟨σ, MI2, SV, hI⟩⟩
theorem pr_rest {E : am_E} {d x : Nat} {h : Hp} {p0 : Int} (hB : E.2 ≤ x) (I : IN h x) (b0 : -2147483648 ≤ p0 ∧ p0 ≤ 2147483647) : PR E (d + 20) h x mX11_rest [.ref x, .int (i32 p0)] mX12_rest [.ref (x + 57), .int (i32 p0)] := by
  obtain ⟨X, XI, hi, hw, ck, cf, rs, rx, P, C, R, O⟩ := I
  obtain ⟨n, mm, K, F, T, S, C0⟩ := X
  obtain ⟨⟨hn6, hg, hK, hm9⟩, P2, P3⟩ := id P
  have hn6 : n ≤ 6 := hn6
  have hg : Rng n T S C0 := hg
  have hK : ∀ i, i < n → (0 ≤ K i ∧ K i ≤ 7) ∧ (0 ≤ F i ∧ F i ≤ 9) := hK
  have hm9 : 0 ≤ mm ∧ mm ≤ 999 := hm9
  obtain ⟨Z, ⟨kr, tu, Rr, -, ky⟩, CIr, ⟨sa, V⟩, w, hyh⟩ := id C
  refine Ex_post (x11_rest Z Rr hg ky (by omega) (by omega) b0) ?_
  rintro r1 h1 ⟨rfl, N1, f1⟩
  have C1 := (C.p N1 f1)
  obtain ⟨gw, ⟨σ, MIh, SV, hI⟩, O1, hm⟩ := K1.mid (f1.k1 (by omega) (by omega)) R O
  refine ⟨_, rfl, gw, hm, ?_⟩
  refine Ex_post (x12_rest MIh hn6 hg hK (by omega) b0) ?_
  rintro r2 h2 ⟨rfl, MI2, f2⟩
  exact ⟨rfl, pr_end (P.now N1 (by rw [m_rest]; exact hm9)) C1 O1 f2 ⟨σ, MI2, SV, hI⟩⟩
theorem pr_minute {E : am_E} {d x : Nat} {h : Hp} {p0 p1 : Int} (hB : E.2 ≤ x) (I : IN h x) (b0 : -2147483648 ≤ p0 ∧ p0 ≤ 2147483647) (b1 : -2147483648 ≤ p1 ∧ p1 ≤ 2147483647) : PR E (d + 20) h x mX11_minute [.ref x, .int (i32 p0), .int (i32 p1)] mX12_minute [.ref (x + 57), .int (i32 p0), .int (i32 p1)] := by
  obtain ⟨X, XI, hi, hw, ck, cf, rs, rx, P, C, R, O⟩ := I
  obtain ⟨n, mm, K, F, T, S, C0⟩ := X
  obtain ⟨⟨hn6, hg, hK, hm9⟩, P2, P3⟩ := id P
  have hn6 : n ≤ 6 := hn6
  have hg : Rng n T S C0 := hg
  have hK : ∀ i, i < n → (0 ≤ K i ∧ K i ≤ 7) ∧ (0 ≤ F i ∧ F i ≤ 9) := hK
  have hm9 : 0 ≤ mm ∧ mm ≤ 999 := hm9
  obtain ⟨Z, ⟨kr, tu, Rr, -, ky⟩, CIr, ⟨sa, V⟩, w, hyh⟩ := id C
  refine Ex_post (x11_minute Z Rr hg ky (by omega) (by omega) b0 b1 (by omega)) ?_
  rintro r1 h1 ⟨rfl, N1, f1⟩
  have C1 := (C.p N1 f1)
  obtain ⟨gw, ⟨σ, MIh, SV, hI⟩, O1, hm⟩ := K1.mid (f1.k1 (by omega) (by omega)) R O
  refine ⟨_, rfl, gw, hm, ?_⟩
  refine Ex_post (x12_minute MIh hn6 hg hK (by omega) b0 b1 hm9) ?_
  rintro r2 h2 ⟨rfl, MI2, f2⟩
  exact ⟨rfl, pr_end (P.now N1 (m_minute hm9)) C1 O1 f2 ⟨σ, MI2, SV, hI⟩⟩
theorem pr_comes {E : am_E} {d x : Nat} {h : Hp} {p0 p1 : Int} (hB : E.2 ≤ x) (I : IN h x) (b0 : -2147483648 ≤ p0 ∧ p0 ≤ 2147483647) (b1 : -2147483648 ≤ p1 ∧ p1 ≤ 2147483647) : PR E (d + 20) h x mX11_comes [.ref x, .int (i32 p0), .int (i32 p1), .retAddr 0] mX12_comes [.ref (x + 57), .int (i32 p0), .int (i32 p1), .retAddr 0] := by
  obtain ⟨X, XI, hi, hw, ck, cf, rs, rx, P, C, R, O⟩ := I
  obtain ⟨n, mm, K, F, T, S, C0⟩ := X
  obtain ⟨⟨hn6, hg, hK, hm9⟩, P2, P3⟩ := id P
  have hn6 : n ≤ 6 := hn6
  have hg : Rng n T S C0 := hg
  have hK : ∀ i, i < n → (0 ≤ K i ∧ K i ≤ 7) ∧ (0 ≤ F i ∧ F i ≤ 9) := hK
  have hm9 : 0 ≤ mm ∧ mm ≤ 999 := hm9
  obtain ⟨Z, ⟨kr, tu, Rr, -, ky⟩, CIr, ⟨sa, V⟩, w, hyh⟩ := id C
  refine Ex_post (x11_comes Z Rr hg ky (by omega) (by omega) V b0 b1) ?_
  rintro r1 h1 ⟨rfl, N1, f1⟩
  have C1 := (C.p N1 f1)
  obtain ⟨gw, ⟨σ, MIh, SV, hI⟩, O1, hm⟩ := K1.mid (f1.k1 (by omega) (by omega)) R O
  refine ⟨_, rfl, gw, hm, ?_⟩
  refine Ex_post (x12_comes MIh hn6 hg hK (by omega) SV b0 b1) ?_
  rintro r2 h2 ⟨rfl, ⟨σ2, MI2, SV2, e16⟩, f2⟩
  exact ⟨rfl, pr_end (P.now N1 (by rw [m_comes]; exact hm9)) C1 O1 f2 ⟨σ2, MI2, SV2, by rw [e16]; exact hI⟩⟩
theorem pr_bath {E : am_E} {d x : Nat} {h : Hp} {p0 : Int} (hB : E.2 ≤ x) (I : IN h x) (b0 : -2147483648 ≤ p0 ∧ p0 ≤ 2147483647) : PR E (d + 20) h x mX11_bath [.ref x, .int (i32 p0), .retAddr 0, .retAddr 0, .retAddr 0, .retAddr 0, .retAddr 0] mX12_bath [.ref (x + 57), .int (i32 p0), .retAddr 0, .retAddr 0] := by
  obtain ⟨X, XI, hi, hw, ck, cf, rs, rx, P, C, R, O⟩ := I
  obtain ⟨n, mm, K, F, T, S, C0⟩ := X
  obtain ⟨⟨hn6, hg, hK, hm9⟩, P2, P3⟩ := id P
  have hn6 : n ≤ 6 := hn6
  have hg : Rng n T S C0 := hg
  have hK : ∀ i, i < n → (0 ≤ K i ∧ K i ≤ 7) ∧ (0 ≤ F i ∧ F i ≤ 9) := hK
  have hm9 : 0 ≤ mm ∧ mm ≤ 999 := hm9
  obtain ⟨Z, ⟨kr, tu, Rr, -, ky⟩, CIr, ⟨sa, V⟩, w, hyh⟩ := id C
  refine Ex_post (x11_bath Z Rr hg ky (by omega) (by omega) V w hyh hm9 b0) ?_
  rintro r1 h1 ⟨rfl, Z1, N1, f1⟩
  have C1 := (C.b Z1 N1 f1)
  obtain ⟨gw, ⟨σ, MIh, SV, hI⟩, O1, hm⟩ := K1.mid (f1.k1 (by omega) (by omega)) R O
  refine ⟨_, rfl, gw, hm, ?_⟩
  refine Ex_post (x12_bath MIh hn6 hg hK (by omega) SV b0 hm9) ?_
  rintro r2 h2 ⟨rfl, ⟨σ2, MI2, SV2, e16⟩, f2⟩
  exact ⟨rfl, pr_end (P.now N1 (m_bath hm9)) C1 O1 f2 ⟨σ2, MI2, SV2, by rw [e16]; exact hI⟩⟩
theorem pr_beside {E : am_E} {d x : Nat} {h : Hp} {p0 : Int} (hB : E.2 ≤ x) (I : IN h x) (b0 : -2147483648 ≤ p0 ∧ p0 ≤ 2147483647) : PR E (d + 20) h x mX11_beside [.ref x, .int (i32 p0)] mX12_beside [.ref (x + 57), .int (i32 p0), .retAddr 0, .retAddr 0, .retAddr 0, .retAddr 0, .retAddr 0, .retAddr 0] := by
  obtain ⟨X, XI, hi, hw, ck, cf, rs, rx, P, C, R, O⟩ := I
  obtain ⟨n, mm, K, F, T, S, C0⟩ := X
  obtain ⟨⟨hn6, hg, hK, hm9⟩, P2, P3⟩ := id P
  have hn6 : n ≤ 6 := hn6
  have hg : Rng n T S C0 := hg
  have hK : ∀ i, i < n → (0 ≤ K i ∧ K i ≤ 7) ∧ (0 ≤ F i ∧ F i ≤ 9) := hK
  have hm9 : 0 ≤ mm ∧ mm ≤ 999 := hm9
  obtain ⟨Z, ⟨kr, tu, Rr, -, ky⟩, CIr, ⟨sa, V⟩, w, hyh⟩ := id C
  refine Ex_post (x11_beside Z Rr hg ky (by omega) (by omega) b0) ?_
  rintro r1 h1 ⟨bo, rfl, Z1, f1⟩
  have C1 := (C.q Z1 f1)
  obtain ⟨gw, ⟨σ, MIh, SV, hI⟩, O1, hm⟩ := K1.mid f1.k1 R O
  refine ⟨_, rfl, gw, hm, ?_⟩
  refine Ex_post (x12_beside (bo := bo) MIh hn6 hg hK (by omega) b0) ?_
  rintro r2 h2 ⟨rfl, MI2, f2⟩
  exact ⟨rfl, pr_end P C1 O1 f2 ⟨σ, MI2, SV, hI⟩⟩
theorem pr_weeks {E : am_E} {d x : Nat} {h : Hp} {p0 p1 p2 : Int} (hB : E.2 ≤ x) (I : IN h x) (b0 : -2147483648 ≤ p0 ∧ p0 ≤ 2147483647) (b1 : -2147483648 ≤ p1 ∧ p1 ≤ 2147483647) (b2 : -2147483648 ≤ p2 ∧ p2 ≤ 2147483647) : PR E (d + 20) h x mX11_weeks [.ref x, .int (i32 p0), .int (i32 p1), .int (i32 p2), .retAddr 0, .retAddr 0, .retAddr 0, .retAddr 0, .retAddr 0, .retAddr 0, .retAddr 0, .retAddr 0] mX12_weeks [.ref (x + 57), .int (i32 p0), .int (i32 p1), .int (i32 p2), .retAddr 0, .retAddr 0, .retAddr 0, .retAddr 0, .retAddr 0, .retAddr 0, .retAddr 0] := by
  obtain ⟨X, XI, hi, hw, ck, cf, rs, rx, P, C, R, O⟩ := I
  obtain ⟨n, mm, K, F, T, S, C0⟩ := X
  obtain ⟨⟨hn6, hg, hK, hm9⟩, P2, P3⟩ := id P
  have hn6 : n ≤ 6 := hn6
  have hg : Rng n T S C0 := hg
  have hK : ∀ i, i < n → (0 ≤ K i ∧ K i ≤ 7) ∧ (0 ≤ F i ∧ F i ≤ 9) := hK
  have hm9 : 0 ≤ mm ∧ mm ≤ 999 := hm9
  obtain ⟨Z, ⟨kr, tu, Rr, -, ky⟩, CIr, ⟨sa, V⟩, w, hyh⟩ := id C
  refine Ex_post (x11_weeks Z Rr hg ky (by omega) (by omega) b0 b2) ?_
  rintro r1 h1 ⟨rfl, Z1, f1⟩
  have C1 := (C.q Z1 f1)
  obtain ⟨gw, ⟨σ, MIh, SV, hI⟩, O1, hm⟩ := K1.mid f1.k1 R O
  refine ⟨_, rfl, gw, hm, ?_⟩
  refine Ex_post (x12_weeks MIh hn6 hg hK (by omega) b0 b2) ?_
  rintro r2 h2 ⟨rfl, MI2, f2⟩
  exact ⟨rfl, pr_end P C1 O1 f2 ⟨σ, MI2, SV, hI⟩⟩
theorem pr_image {E : am_E} {d x : Nat} {h : Hp} (hB : E.2 ≤ x) (I : IN h x) : PR E (d + 20) h x mX11_image [.ref x] mX12_image [.ref (x + 57)] := by
  obtain ⟨X, XI, hi, hw, ck, cf, rs, rx, P, C, R, O⟩ := I
  obtain ⟨n, mm, K, F, T, S, C0⟩ := X
  obtain ⟨⟨hn6, hg, hK, hm9⟩, P2, P3⟩ := id P
  have hn6 : n ≤ 6 := hn6
  have hg : Rng n T S C0 := hg
  have hK : ∀ i, i < n → (0 ≤ K i ∧ K i ≤ 7) ∧ (0 ≤ F i ∧ F i ≤ 9) := hK
  have hm9 : 0 ≤ mm ∧ mm ≤ 999 := hm9
  obtain ⟨Z, ⟨kr, tu, Rr, -, ky⟩, CIr, ⟨sa, V⟩, w, hyh⟩ := id C
  refine Ex_post (x11_image Z Rr hg ky (by omega) (by omega) CIr.2) ?_
  rintro r1 h1 ⟨rfl, Z1, RI1, e2, e1⟩
  have eo : ∀ q v, q ≠ x → ¬ (x + 19 ≤ q ∧ q < x + 28) → h.1 q = some v → h1.1 q = some v := fun q v q1 q2 e => (e1 q q1 q2).trans e
  have C1 : CI h1 x (n, mm, K, F, T, S, C0) (n, mm, K, F, T, S, C0) 1 hw ck cf rs rx := by
    refine ⟨Z1, ⟨kr, tu, Rr.ol (fun q v h1 h2 => eo q v (by omega) (by omega)), hg, ky.ol (fun q v h1 => eo q v (by omega) (by omega))⟩, ⟨fun _ => ⟨kr, 0, RI1, hg, ky.ol (fun q v h1 => eo q v (by omega) (by omega))⟩, RI1.any⟩, ⟨sa, V.ol (fun q v hq => eo q v (by omega) (by omega))⟩, fun q hq => ?_, by rw [e2]; exact hyh⟩
    rw [e2] at hq
    rw [e1 q (by omega) (by omega)]
    exact w q hq
  have k1 : K1 h h1 x := ⟨⟨by rw [e2]; omega, fun q v hq => eo q v (by omega) (by omega)⟩, fun q v h1 h2 => eo q v (by omega) (by omega)⟩
  obtain ⟨gw, ⟨σ, MIh, SV, hI⟩, O1, hm⟩ := K1.mid k1 R O
  refine ⟨_, rfl, gw, hm, ?_⟩
  refine Ex_post (x12_image MIh (by omega)) ?_
  rintro r2 h2 ⟨rfl, ⟨f2_, y1, y2⟩, f2⟩
  exact ⟨rfl, pr_end ⟨P.1, fun _ => P.1, Or.inr rfl⟩ C1 O1 f2 ⟨_, y2, SV.i16, fun _ i hi => by rw [fuR_at]; exact y1 i hi⟩⟩
theorem pr_restore {E : am_E} {d x : Nat} {h : Hp} (hB : E.2 ≤ x) (I : IN h x) : PR E (d + 20) h x mX11_restore [.ref x] mX12_restore [.ref (x + 57)] := by
  obtain ⟨X, XI, hi, hw, ck, cf, rs, rx, P, C, R, O⟩ := I
  obtain ⟨n, mm, K, F, T, S, C0⟩ := X
  obtain ⟨⟨hn6, hg, hK, hm9⟩, P2, P3⟩ := id P
  have hn6 : n ≤ 6 := hn6
  have hg : Rng n T S C0 := hg
  have hK : ∀ i, i < n → (0 ≤ K i ∧ K i ≤ 7) ∧ (0 ≤ F i ∧ F i ≤ 9) := hK
  have hm9 : 0 ≤ mm ∧ mm ≤ 999 := hm9
  obtain ⟨Z, ⟨kr, tu, Rr, -, ky⟩, CIr, ⟨sa, V⟩, w, hyh⟩ := id C
  rcases P3 with h0 | h0
  · refine Ex_post (x11_restore0 Z Rr hg ky (by omega) (by omega) h0) ?_
    rintro r1 h1 ⟨rfl, e0⟩
    obtain rfl := Eq.symm e0
    have C1 := C
    obtain ⟨gw, ⟨σ, MIh, SV, hI⟩, O1, hm⟩ := K1.mid (K1.rf h x) R O
    refine ⟨_, rfl, gw, hm, ?_⟩
    refine Ex_post (x12_restore0 MIh (by omega) h0) ?_
    rintro r2 h2 ⟨rfl, MI2, f2⟩
    exact ⟨rfl, pr_end P C1 O1 f2 ⟨σ, MI2, SV, hI⟩⟩
  · obtain ⟨nI, mI, KI, FI, TI, SI, CI0⟩ := XI
    obtain ⟨krI, tuI, RrI, hgI, kyI⟩ := CIr.1 h0
    refine Ex_post (x11_restore1 Z Rr hg ky (by omega) (by omega) h0 RrI) ?_
    rintro r1 h1 ⟨rfl, R1, f1⟩
    have N1 : Now h1 x (x + 81) (nI, mI, KI, FI, TI, SI, CI0) := ⟨krI, 0, R1, hgI, kyI.fr f1 (by omega)⟩
    have C1 := C.p N1 f1
    obtain ⟨gw, ⟨σ, MIh, SV, hI⟩, O1, hm⟩ := K1.mid (f1.k1 (by omega) (by omega)) R O
    refine ⟨_, rfl, gw, hm, ?_⟩
    refine Ex_post (x12_restore1 MIh (by omega) h0 (hI h0)) ?_
    rintro r2 h2 ⟨rfl, MI2, f2⟩
    exact ⟨rfl, pr_end ⟨P2 h0, P2, Or.inr h0⟩ C1 O1 f2 ⟨σ, MI2, SV, hI⟩⟩
theorem pr_keep {E : am_E} {d x : Nat} {h : Hp} {p0 p1 p2 p3 : Int} (hB : E.2 ≤ x) (I : IN h x) (b0 : -2147483648 ≤ p0 ∧ p0 ≤ 2147483647) (b1 : -2147483648 ≤ p1 ∧ p1 ≤ 2147483647) (b2 : -2147483648 ≤ p2 ∧ p2 ≤ 2147483647) (b3 : -2147483648 ≤ p3 ∧ p3 ≤ 2147483647) : PR E (d + 20) h x mX11_keep [.ref x, .int (i32 p0), .int (i32 p1), .int (i32 p2), .int (i32 p3)] mX12_keep [.ref (x + 57), .int (i32 p0), .int (i32 p1), .int (i32 p2), .int (i32 p3)] := by
  obtain ⟨X, XI, hi, hw, ck, cf, rs, rx, P, C, R, O⟩ := I
  obtain ⟨n, mm, K, F, T, S, C0⟩ := X
  obtain ⟨⟨hn6, hg, hK, hm9⟩, P2, P3⟩ := id P
  have hn6 : n ≤ 6 := hn6
  have hg : Rng n T S C0 := hg
  have hK : ∀ i, i < n → (0 ≤ K i ∧ K i ≤ 7) ∧ (0 ≤ F i ∧ F i ≤ 9) := hK
  have hm9 : 0 ≤ mm ∧ mm ≤ 999 := hm9
  obtain ⟨Z, ⟨kr, tu, Rr, -, ky⟩, CIr, ⟨sa, V⟩, w, hyh⟩ := id C
  by_cases q : ok_keep p0 p1 p2 p3
  · rcases (show p1 = 0 ∨ p1 = 1 by have := q.1.2; omega) with e | e
    · subst e
      refine Ex_post (x11_keep_0 Z V w (by omega) (by omega) hyh b0 b2 b3 q) ?_
      rintro r1 h1 ⟨rfl, V1, f1⟩
      have C1 := (C.s f1 (Or.inr (by omega)) V1)
      obtain ⟨gw, ⟨σ, MIh, SV, hI⟩, O1, hm⟩ := K1.mid (f1.k1 (Or.inr (by omega)) (by omega) (by omega)) R O
      refine ⟨_, rfl, gw, hm, ?_⟩
      refine Ex_post (x12_keep_0 MIh hn6 hg hK (by omega) SV b0 b2 b3 q) ?_
      rintro r2 h2 ⟨rfl, ⟨σ2, MI2, SV2, e16⟩, f2⟩
      exact ⟨rfl, pr_end P C1 O1 f2 ⟨σ2, MI2, SV2, by rw [e16]; exact hI⟩⟩
    · subst e
      refine Ex_post (x11_keep_1 Z V w (by omega) (by omega) hyh b0 b2 b3 q) ?_
      rintro r1 h1 ⟨rfl, V1, f1⟩
      have C1 := (C.s f1 (Or.inr (by omega)) V1)
      obtain ⟨gw, ⟨σ, MIh, SV, hI⟩, O1, hm⟩ := K1.mid (f1.k1 (Or.inr (by omega)) (by omega) (by omega)) R O
      refine ⟨_, rfl, gw, hm, ?_⟩
      refine Ex_post (x12_keep_1 MIh hn6 hg hK (by omega) SV b0 b2 b3 q) ?_
      rintro r2 h2 ⟨rfl, ⟨σ2, MI2, SV2, e16⟩, f2⟩
      exact ⟨rfl, pr_end P C1 O1 f2 ⟨σ2, MI2, SV2, by rw [e16]; exact hI⟩⟩
  · refine Ex_post (x11_keep_no Z V w (by omega) (by omega) hyh b0 b1 b2 b3 q) ?_
    rintro r1 h1 ⟨rfl, e0⟩
    obtain rfl := Eq.symm e0
    have C1 := C
    obtain ⟨gw, ⟨σ, MIh, SV, hI⟩, O1, hm⟩ := K1.mid (K1.rf h x) R O
    refine ⟨_, rfl, gw, hm, ?_⟩
    refine Ex_post (x12_keep_no MIh hn6 hg hK (by omega) SV b0 b1 b2 b3 q) ?_
    rintro r2 h2 ⟨rfl, ⟨σ2, MI2, SV2, e16⟩, f2⟩
    exact ⟨rfl, pr_end P C1 O1 f2 ⟨σ2, MI2, SV2, by rw [e16]; exact hI⟩⟩
theorem pr_row {E : am_E} {d x : Nat} {h : Hp} {p0 p1 p2 : Int} (hB : E.2 ≤ x) (I : IN h x) (b0 : -2147483648 ≤ p0 ∧ p0 ≤ 2147483647) (b1 : -2147483648 ≤ p1 ∧ p1 ≤ 2147483647) (b2 : -2147483648 ≤ p2 ∧ p2 ≤ 2147483647) : PR E (d + 20) h x mX11_row [.ref x, .int (i32 p0), .int (i32 p1), .int (i32 p2)] mX12_row [.ref (x + 57), .int (i32 p0), .int (i32 p1), .int (i32 p2), .retAddr 0] := by
  obtain ⟨X, XI, hi, hw, ck, cf, rs, rx, P, C, R, O⟩ := I
  obtain ⟨n, mm, K, F, T, S, C0⟩ := X
  obtain ⟨⟨hn6, hg, hK, hm9⟩, P2, P3⟩ := id P
  have hn6 : n ≤ 6 := hn6
  have hg : Rng n T S C0 := hg
  have hK : ∀ i, i < n → (0 ≤ K i ∧ K i ≤ 7) ∧ (0 ≤ F i ∧ F i ≤ 9) := hK
  have hm9 : 0 ≤ mm ∧ mm ≤ 999 := hm9
  obtain ⟨Z, ⟨kr, tu, Rr, -, ky⟩, CIr, ⟨sa, V⟩, w, hyh⟩ := id C
  by_cases q : ok_row p0 p1 p2
  · by_cases q2 : p2 < 0
    · refine Ex_post (x11_row_neg Z V w (by omega) (by omega) hyh b0 b1 b2 q q2) ?_
      rintro r1 h1 ⟨rfl, e0⟩
      obtain rfl := Eq.symm e0
      have C1 := C
      obtain ⟨gw, ⟨σ, MIh, SV, hI⟩, O1, hm⟩ := K1.mid (K1.rf h x) R O
      refine ⟨_, rfl, gw, hm, ?_⟩
      refine Ex_post (x12_row_neg MIh hn6 hg hK (by omega) SV b0 b1 b2 q q2) ?_
      rintro r2 h2 ⟨rfl, ⟨σ2, MI2, SV2, e16⟩, f2⟩
      exact ⟨rfl, pr_end P C1 O1 f2 ⟨σ2, MI2, SV2, by rw [e16]; exact hI⟩⟩
    · refine Ex_post (x11_row_yes Z V w (by omega) (by omega) hyh b0 b1 b2 q (by omega)) ?_
      rintro r1 h1 ⟨rfl, V1, f1⟩
      have C1 := (C.s f1 (Or.inr (by omega)) V1)
      obtain ⟨gw, ⟨σ, MIh, SV, hI⟩, O1, hm⟩ := K1.mid (f1.k1 (Or.inr (by omega)) (by omega) (by omega)) R O
      refine ⟨_, rfl, gw, hm, ?_⟩
      refine Ex_post (x12_row_yes MIh hn6 hg hK (by omega) SV b0 b1 b2 q (by omega)) ?_
      rintro r2 h2 ⟨rfl, ⟨σ2, MI2, SV2, e16⟩, f2⟩
      exact ⟨rfl, pr_end P C1 O1 f2 ⟨σ2, MI2, SV2, by rw [e16]; exact hI⟩⟩
  · refine Ex_post (x11_row_no Z V w (by omega) (by omega) hyh b0 b1 b2 q) ?_
    rintro r1 h1 ⟨rfl, e0⟩
    obtain rfl := Eq.symm e0
    have C1 := C
    obtain ⟨gw, ⟨σ, MIh, SV, hI⟩, O1, hm⟩ := K1.mid (K1.rf h x) R O
    refine ⟨_, rfl, gw, hm, ?_⟩
    refine Ex_post (x12_row_no MIh hn6 hg hK (by omega) SV b0 b1 b2 q) ?_
    rintro r2 h2 ⟨rfl, ⟨σ2, MI2, SV2, e16⟩, f2⟩
    exact ⟨rfl, pr_end P C1 O1 f2 ⟨σ2, MI2, SV2, by rw [e16]; exact hI⟩⟩
theorem pr_put {E : am_E} {d x : Nat} {h : Hp} {p0 p1 p2 : Int} (hB : E.2 ≤ x) (I : IN h x) (b0 : -2147483648 ≤ p0 ∧ p0 ≤ 2147483647) (b1 : -2147483648 ≤ p1 ∧ p1 ≤ 2147483647) (b2 : -2147483648 ≤ p2 ∧ p2 ≤ 2147483647) : PR E (d + 20) h x mX11_put [.ref x, .int (i32 p0), .int (i32 p1), .int (i32 p2), .retAddr 0] mX12_put [.ref (x + 57), .int (i32 p0), .int (i32 p1), .int (i32 p2), .retAddr 0] := by
  obtain ⟨X, XI, hi, hw, ck, cf, rs, rx, P, C, R, O⟩ := I
  obtain ⟨n, mm, K, F, T, S, C0⟩ := X
  obtain ⟨⟨hn6, hg, hK, hm9⟩, P2, P3⟩ := id P
  have hn6 : n ≤ 6 := hn6
  have hg : Rng n T S C0 := hg
  have hK : ∀ i, i < n → (0 ≤ K i ∧ K i ≤ 7) ∧ (0 ≤ F i ∧ F i ≤ 9) := hK
  have hm9 : 0 ≤ mm ∧ mm ≤ 999 := hm9
  obtain ⟨Z, ⟨kr, tu, Rr, -, ky⟩, CIr, ⟨sa, V⟩, w, hyh⟩ := id C
  by_cases q : (0 ≤ p0 ∧ p0 ≤ 7) ∧ hw p0.toNat = 2
  · by_cases q2 : 0 ≤ p1 ∧ p1 < ((rx p0.toNat).length : Int)
    · refine Ex_post (x11_put_yes Z V w (by omega) (by omega) hyh b0 b1 b2 q q2) ?_
      rintro r1 h1 ⟨rfl, V1, f1, hya⟩
      have C1 := (C.w V (by omega) q.2 f1 V1 hya)
      obtain ⟨gw, ⟨σ, MIh, SV, hI⟩, O1, hm⟩ := K1.mid (f1.k1 (by omega) (by omega)) R O
      refine ⟨_, rfl, gw, hm, ?_⟩
      refine Ex_post (x12_put_yes MIh hn6 hg hK (by omega) SV b0 b1 b2 q q2) ?_
      rintro r2 h2 ⟨rfl, ⟨σ2, MI2, SV2, e16⟩, f2⟩
      exact ⟨rfl, pr_end P C1 O1 f2 ⟨σ2, MI2, SV2, by rw [e16]; exact hI⟩⟩
    · refine Ex_post (x11_put_no Z V w (by omega) (by omega) hyh b0 b1 b2 q q2) ?_
      rintro r1 h1 ⟨rfl, e0⟩
      obtain rfl := Eq.symm e0
      have C1 := C
      obtain ⟨gw, ⟨σ, MIh, SV, hI⟩, O1, hm⟩ := K1.mid (K1.rf h x) R O
      refine ⟨_, rfl, gw, hm, ?_⟩
      refine Ex_post (x12_put_no MIh hn6 hg hK (by omega) SV b0 b1 b2 q q2) ?_
      rintro r2 h2 ⟨rfl, ⟨σ2, MI2, SV2, e16⟩, f2⟩
      exact ⟨rfl, pr_end P C1 O1 f2 ⟨σ2, MI2, SV2, by rw [e16]; exact hI⟩⟩
  · refine Ex_post (x11_put_why Z V w (by omega) (by omega) hyh b0 b1 b2 q) ?_
    rintro r1 h1 ⟨rfl, e0⟩
    obtain rfl := Eq.symm e0
    have C1 := C
    obtain ⟨gw, ⟨σ, MIh, SV, hI⟩, O1, hm⟩ := K1.mid (K1.rf h x) R O
    refine ⟨_, rfl, gw, hm, ?_⟩
    refine Ex_post (x12_put_why MIh hn6 hg hK (by omega) SV b0 b1 b2 q) ?_
    rintro r2 h2 ⟨rfl, ⟨σ2, MI2, SV2, e16⟩, f2⟩
    exact ⟨rfl, pr_end P C1 O1 f2 ⟨σ2, MI2, SV2, by rw [e16]; exact hI⟩⟩
theorem pr_copy {E : am_E} {d x : Nat} {h : Hp} {p0 p1 p2 p3 p4 : Int} (hB : E.2 ≤ x) (I : IN h x) (b0 : -2147483648 ≤ p0 ∧ p0 ≤ 2147483647) (b1 : -2147483648 ≤ p1 ∧ p1 ≤ 2147483647) (b2 : -2147483648 ≤ p2 ∧ p2 ≤ 2147483647) (b3 : -2147483648 ≤ p3 ∧ p3 ≤ 2147483647) (b4 : -2147483648 ≤ p4 ∧ p4 ≤ 2147483647) : PR E (d + 20) h x mX11_copy [.ref x, .int (i32 p0), .int (i32 p1), .int (i32 p2), .int (i32 p3), .int (i32 p4), .retAddr 0, .retAddr 0] mX12_copy [.ref (x + 57), .int (i32 p0), .int (i32 p1), .int (i32 p2), .int (i32 p3), .int (i32 p4), .retAddr 0] := by
  obtain ⟨X, XI, hi, hw, ck, cf, rs, rx, P, C, R, O⟩ := I
  obtain ⟨n, mm, K, F, T, S, C0⟩ := X
  obtain ⟨⟨hn6, hg, hK, hm9⟩, P2, P3⟩ := id P
  have hn6 : n ≤ 6 := hn6
  have hg : Rng n T S C0 := hg
  have hK : ∀ i, i < n → (0 ≤ K i ∧ K i ≤ 7) ∧ (0 ≤ F i ∧ F i ≤ 9) := hK
  have hm9 : 0 ≤ mm ∧ mm ≤ 999 := hm9
  obtain ⟨Z, ⟨kr, tu, Rr, -, ky⟩, CIr, ⟨sa, V⟩, w, hyh⟩ := id C
  by_cases q : (0 ≤ p0 ∧ p0 ≤ 7) ∧ (0 ≤ p2 ∧ p2 ≤ 7)
  · by_cases q1 : hw p0.toNat = 0 ∨ hw p2.toNat = 0
    · refine Ex_post (x11_copy_11 Z V w (by omega) (by omega) hyh b0 b1 b2 b3 b4 q q1) ?_
      rintro r1 h1 ⟨rfl, e0⟩
      obtain rfl := Eq.symm e0
      have C1 := C
      obtain ⟨gw, ⟨σ, MIh, SV, hI⟩, O1, hm⟩ := K1.mid (K1.rf h x) R O
      refine ⟨_, rfl, gw, hm, ?_⟩
      refine Ex_post (x12_copy_11 MIh hn6 hg hK (by omega) SV b0 b1 b2 b3 b4 q q1) ?_
      rintro r2 h2 ⟨rfl, ⟨σ2, MI2, SV2, e16⟩, f2⟩
      exact ⟨rfl, pr_end P C1 O1 f2 ⟨σ2, MI2, SV2, by rw [e16]; exact hI⟩⟩
    · by_cases q2 : hw p0.toNat = 2 ∧ hw p2.toNat = 2 ∧ rs p0.toNat = rs p2.toNat
      · by_cases q3 : (0 ≤ p1 ∧ 0 ≤ p4 ∧ p1 ≤ ((rx p0.toNat).length : Int) ∧ p4 ≤ ((rx p0.toNat).length : Int) - p1) ∧ (0 ≤ p3 ∧ 0 ≤ p4 ∧ p3 ≤ ((rx p2.toNat).length : Int) ∧ p4 ≤ ((rx p2.toNat).length : Int) - p3)
        · refine Ex_post (x11_copy_yes Z V w (by omega) (by omega) hyh b0 b1 b2 b3 b4 q q1 q2 q3) ?_
          rintro r1 h1 ⟨rfl, V1, f1, hya⟩
          have C1 := (C.w V (by omega) q2.2.1 f1 V1 hya)
          obtain ⟨gw, ⟨σ, MIh, SV, hI⟩, O1, hm⟩ := K1.mid (f1.k1 (by omega) (by omega)) R O
          refine ⟨_, rfl, gw, hm, ?_⟩
          refine Ex_post (x12_copy_yes MIh hn6 hg hK (by omega) SV b0 b1 b2 b3 b4 q q1 q2 q3) ?_
          rintro r2 h2 ⟨rfl, ⟨σ2, MI2, SV2, e16⟩, f2⟩
          exact ⟨rfl, pr_end P C1 O1 f2 ⟨σ2, MI2, SV2, by rw [e16]; exact hI⟩⟩
        · refine Ex_post (x11_copy_13 Z V w (by omega) (by omega) hyh b0 b1 b2 b3 b4 q q1 q2 q3) ?_
          rintro r1 h1 ⟨rfl, e0⟩
          obtain rfl := Eq.symm e0
          have C1 := C
          obtain ⟨gw, ⟨σ, MIh, SV, hI⟩, O1, hm⟩ := K1.mid (K1.rf h x) R O
          refine ⟨_, rfl, gw, hm, ?_⟩
          refine Ex_post (x12_copy_13 MIh hn6 hg hK (by omega) SV b0 b1 b2 b3 b4 q q1 q2 q3) ?_
          rintro r2 h2 ⟨rfl, ⟨σ2, MI2, SV2, e16⟩, f2⟩
          exact ⟨rfl, pr_end P C1 O1 f2 ⟨σ2, MI2, SV2, by rw [e16]; exact hI⟩⟩
      · refine Ex_post (x11_copy_12 Z V w (by omega) (by omega) hyh b0 b1 b2 b3 b4 q q1 q2) ?_
        rintro r1 h1 ⟨rfl, e0⟩
        obtain rfl := Eq.symm e0
        have C1 := C
        obtain ⟨gw, ⟨σ, MIh, SV, hI⟩, O1, hm⟩ := K1.mid (K1.rf h x) R O
        refine ⟨_, rfl, gw, hm, ?_⟩
        refine Ex_post (x12_copy_12 MIh hn6 hg hK (by omega) SV b0 b1 b2 b3 b4 q q1 q2) ?_
        rintro r2 h2 ⟨rfl, ⟨σ2, MI2, SV2, e16⟩, f2⟩
        exact ⟨rfl, pr_end P C1 O1 f2 ⟨σ2, MI2, SV2, by rw [e16]; exact hI⟩⟩
  · refine Ex_post (x11_copy_1 Z V w (by omega) (by omega) hyh b0 b1 b2 b3 b4 q) ?_
    rintro r1 h1 ⟨rfl, e0⟩
    obtain rfl := Eq.symm e0
    have C1 := C
    obtain ⟨gw, ⟨σ, MIh, SV, hI⟩, O1, hm⟩ := K1.mid (K1.rf h x) R O
    refine ⟨_, rfl, gw, hm, ?_⟩
    refine Ex_post (x12_copy_1 MIh hn6 hg hK (by omega) SV b0 b1 b2 b3 b4 q) ?_
    rintro r2 h2 ⟨rfl, ⟨σ2, MI2, SV2, e16⟩, f2⟩
    exact ⟨rfl, pr_end P C1 O1 f2 ⟨σ2, MI2, SV2, by rw [e16]; exact hI⟩⟩
