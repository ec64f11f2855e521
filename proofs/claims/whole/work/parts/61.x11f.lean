/-! shelves and the image (by program: wip/whole/spec_s.py) -/
def fuL (f : Nat → List Int) (i : Nat) (v : List Int) : Nat → List Int := fun j => if j = i then v else f j
theorem fuL_at (f : Nat → List Int) (i : Nat) (v : List Int) : fuL f i v i = v := by unfold fuL; rw [if_pos rfl]
theorem fuL_ne {f : Nat → List Int} {i j : Nat} {v : List Int} (h : j ≠ i) : fuL f i v j = f j := by unfold fuL; rw [if_neg h]
theorem fuL_same (f : Nat → List Int) (i : Nat) : fuL f i (f i) = f := by
  funext j
  unfold fuL
  split
  · rename_i h; rw [h]
  · rfl
theorem kv_fu {hw : Nat → Int} {sa : Nat → Nat} {d a : Nat} {w : Int} : kv (fu hw d w) (fuN sa d a) = fuV (kv hw sa) d (if w = 1 then .ref a else .null) := by
  funext j
  unfold kv fu fuN fuV
  by_cases e : j = d
  · simp only [e, if_true]
  · simp only [e, if_false]
theorem rv_fu {hw : Nat → Int} {sa : Nat → Nat} {d a : Nat} {w : Int} : rv (fu hw d w) (fuN sa d a) = fuV (rv hw sa) d (if w = 2 then .ref a else .null) := by
  funext j
  unfold rv fu fuN fuV
  by_cases e : j = d
  · simp only [e, if_true]
  · simp only [e, if_false]
theorem Shv.upd {h h1 : Hp} {x y lo c s d a : Nat} {hw ck cf rs : Nat → Int} {rx : Nat → List Int} {sa : Nat → Nat} {w ck1 cf1 rs1 : Int} {rx1 : List Int} (V : Shv h x y hw ck cf rs rx sa) (g : Gr h h1 lo (x + 8) c s) (hy : x + 57 ≤ y) (hd : d < 8)
    (e6 : h1.1 (x + 6) = some (24, va8 (fuV (kv hw sa) d (if w = 1 then .ref a else .null)))) (e7 : h1.1 (x + 7) = some (25, va8 (fuV (rv hw sa) d (if w = 2 then .ref a else .null)))) (hw3 : w = 0 ∨ w = 1 ∨ w = 2) (k1 : w = 1 → KindAt h1 a ck1 cf1) (k2 : w = 2 → RowAt h1 a rs1 rx1 ∧ ∀ e, e < 8 → hw e = 2 → sa e ≠ a) (hya : w ≠ 0 → y ≤ a) :
    Shv h1 x y (fu hw d w) (fu ck d ck1) (fu cf d cf1) (fu rs d rs1) (fuL rx d rx1) (fuN sa d a) := by
  obtain ⟨v1, v2, v3, v4⟩ := V
  refine ⟨by rw [kv_fu]; exact e6, by rw [rv_fu]; exact e7, fun e he => ?_, fun e1 e2 h1' h2' hne q1 q2 => ?_⟩
  · by_cases q : e = d
    · subst q
      unfold ShO
      rw [fu_at, fu_at, fu_at, fu_at, fuL_at]
      simp only [fuN, if_true]
      exact ⟨hw3, k1, fun z => (k2 z).1, hya⟩
    · obtain ⟨s1, s2, s3, s4⟩ := v3 e he
      unfold ShO
      rw [fu_ne q, fu_ne q, fu_ne q, fu_ne q, fuL_ne q]
      simp only [fuN, q, if_false]
      exact ⟨s1, fun z => g.kind (s2 z) (by have := s4 (by omega); omega), fun z => g.row (s3 z) (by have := s4 (by omega); omega), s4⟩
  · by_cases p1 : e1 = d
    · subst p1
      rw [fu_at] at q1
      rw [fu_ne (Ne.symm hne)] at q2
      simp only [fuN, if_true, Ne.symm hne, if_false]
      exact Ne.symm ((k2 q1).2 e2 h2' q2)
    · by_cases p2 : e2 = d
      · subst p2
        rw [fu_at] at q2
        rw [fu_ne p1] at q1
        simp only [fuN, if_true, p1, if_false]
        exact (k2 q2).2 e1 h1' q1
      · rw [fu_ne p1] at q1
        rw [fu_ne p2] at q2
        simp only [fuN, p1, p2, if_false]
        exact v4 e1 e2 h1' h2' hne q1 q2
def do_comes (hw ck cf : Nat → Int) (d t : Int) (X : RS) : Int × RS :=
  if (0 ≤ d ∧ d ≤ 7) ∧ (0 ≤ t ∧ t ≤ 20) then (if hw d.toNat = 1 then (if X.1 < 6 then ((X.1 : Int), rsC (ck d.toNat) (cf d.toNat) t X) else (-2, X)) else (why hw d, X)) else (-1, X)
def an_cost (hw ck cf : Nat → Int) (d : Int) : Int := if (0 ≤ d ∧ d ≤ 7) ∧ hw d.toNat = 1 then sp_price (ck d.toNat) (cf d.toNat) else why hw d
/-- KEEP: what the SHELVES hold then -/
def ok_keep (d w k f : Int) : Prop := ((0 ≤ d ∧ d ≤ 7) ∧ (0 ≤ w ∧ w ≤ 1)) ∧ (w = 1 → (0 ≤ k ∧ k ≤ 7) ∧ (0 ≤ f ∧ f ≤ 9))
def ok_row (d s n : Int) : Prop := ((0 ≤ d ∧ d ≤ 7) ∧ (0 ≤ s ∧ s ≤ 2)) ∧ n ≤ 100
def ok_put (hw : Nat → Int) (rx : Nat → List Int) (d i : Int) : Prop := ((0 ≤ d ∧ d ≤ 7) ∧ hw d.toNat = 2) ∧ (0 ≤ i ∧ i < ((rx d.toNat).length : Int))
def cpL (xs ys : List Int) (sp dp n : Nat) : List Int := ys.take dp ++ ((xs.drop sp).take n ++ ys.drop (dp + n))
theorem cpL_ia (xs ys : List Int) (sp dp n : Nat) : am_cpy (ia xs) (ia ys) sp dp n = ia (cpL xs ys sp dp n) := by
  simp [am_cpy, cpL, ia, List.map_take, List.map_drop]
def do_copy (hw rs : Nat → Int) (rx : Nat → List Int) (d i e j n : Int) : Int × (Nat → List Int) :=
  if (0 ≤ d ∧ d ≤ 7) ∧ (0 ≤ e ∧ e ≤ 7) then
    (if hw d.toNat = 0 ∨ hw e.toNat = 0 then (-11, rx) else if ¬ (hw d.toNat = 2 ∧ hw e.toNat = 2 ∧ rs d.toNat = rs e.toNat) then (-12, rx)
    else if (0 ≤ i ∧ 0 ≤ n ∧ i ≤ ((rx d.toNat).length : Int) ∧ n ≤ ((rx d.toNat).length : Int) - i) ∧ (0 ≤ j ∧ 0 ≤ n ∧ j ≤ ((rx e.toNat).length : Int) ∧ n ≤ ((rx e.toNat).length : Int) - j) then (n, fuL rx e.toNat (cpL (rx d.toNat) (rx e.toNat) i.toNat j.toNat n.toNat)) else (-13, rx))
  else (-1, rx)
theorem ia_rep (n : Nat) : List.replicate n (Value.int (i32 0)) = ia (List.replicate n 0) := by simp [ia]
theorem x8_init {E : am_E} {d : Nat} {h : Hp} {a : Nat} {so n : Int}  (hp : h.1 a = some (8, [.int (i32 0), .null])) (hB : E.2 ≤ a) (hnx : h.2.1 = a + 1) (hso : 0 ≤ so ∧ so ≤ 2) (hn : 0 ≤ n ∧ n ≤ 100)  : Ex E (d + 1) mX8_init 0 [.ref a, .int (i32 so), .int (i32 n)] [] h (fun r1 h1 => r1 = none ∧ RowAt h1 a so (List.replicate n.toNat 0) ∧ h1.2 = (a + 2, h.2.2 + n.toNat) ∧ ∀ q, q ≠ a → q ≠ a + 1 → h1.1 q = h.1 q) := by
  refine Ex_aload_n dX8_init_0 rfl rfl ?_
  refine Ex_obj dX8_init_1 rfl rfl rfl ?_
  refine Ex_aload_n dX8_init_4 rfl rfl ?_
  refine Ex_iload_n dX8_init_5 rfl rfl ?_
  refine Ex_putf (fs2 := [_, _]) dX8_init_6 rfl hp rfl rfl rfl rfl rfl (by omega) rfl ?_
  refine Ex_aload_n dX8_init_9 rfl rfl ?_
  refine Ex_iconst dX8_init_10 rfl ?_
  refine Ex_iload_n dX8_init_11 rfl rfl ?_
  refine Ex_max dX8_init_12 rfl rfl rfl (by omega) ?_
  rw [show max 0 n = n by omega]
  refine Ex_newaI (N := n.toNat) (fs := ia (List.replicate n.toNat 0)) dX8_init_15 rfl (by omega) rfl (ia_rep _) ?_
  have e0 : (am_put h a (8, [.int (i32 so), .null])).2.1 = a + 1 := hnx
  rw [e0]
  refine Ex_putf (fs2 := [_, _]) dX8_init_17 rfl (by rw [am_ng, if_neg (by rw [e0]; omega), am_pg1]) rfl rfl rfl rfl rfl (by omega) rfl ?_
  refine Ex_vret dX8_init_20 rfl ?_
  refine ⟨rfl, ⟨am_pg1 _ _ _, ?_, hso, ?_, ?_⟩, ?_, fun q h1 h2 => ?_⟩
  · rw [am_pg2 (by omega), am_ng, if_pos e0.symm]
  · simp; omega
  · intro z hz
    rw [List.mem_replicate] at hz
    omega
  · show ((am_put h a _).2.1 + 1, _) = _
    rw [e0]
    rfl
  · rw [am_pg2 h1, am_ng, if_neg (by rw [e0]; exact h2), am_pg2 h1]
theorem x11_comes {E : am_E} {d : Nat} {h : Hp} {x y n : Nat} {hi m tu : Int} {kr : Nat → Nat} {K F T S C : Nat → Int} {hw ck cf rs : Nat → Int} {rx : Nat → List Int} {sa : Nat → Nat} {a t : Int}  (Z : Scr h x hi) (R : RailAt h (x + 10) n m tu kr T S C) (hg : Rng n T S C) (ky : KY h y n kr K F) (hB : E.2 ≤ x) (hy : x + 57 ≤ y) (V : Shv h x y hw ck cf rs rx sa) (ha : (-2147483648 ≤ a ∧ a ≤ 2147483647)) (ht : (-2147483648 ≤ t ∧ t ≤ 2147483647))  : Ex E (d + 5) mX11_comes 0 [.ref x, .int (i32 a), .int (i32 t), .retAddr 0] [] h (fun r1 h1 => Pst h h1 x y r1 (do_comes hw ck cf a t (n, m, K, F, T, S, C))) := by
  obtain ⟨⟨bs, z0⟩, z1, ⟨f2, z2⟩, ⟨f3, z3⟩, ⟨f4, z4⟩, ⟨f5, z5⟩, zr0, zr1, zr2, ⟨k5, t5, s5, c5, z55⟩, ⟨k6, t6, s6, c6, z56⟩⟩ := id Z
  obtain ⟨hr, hA, hP, hG, hn6⟩ := id R
  have kk := ky.ok (r := x + 10) (by omega)
  by_cases q0 : (0 ≤ a ∧ a ≤ 7) ∧ (0 ≤ t ∧ t ≤ 20)
  · by_cases q1 : hw a.toNat = 1
    · by_cases q2 : n < 6
      · have ea : do_comes hw ck cf a t (n, m, K, F, T, S, C) = ((n : Int), rsC (ck a.toNat) (cf a.toNat) t (n, m, K, F, T, S, C)) := by unfold do_comes; rw [if_pos q0, if_pos q1]; exact if_pos q2
        rw [ea]
        refine Ex_iload_n dX11_comes_0 rfl rfl ?_
        refine Ex_stat 0 dX11_comes_1 rfl rfl (Or.inl rfl) rfl rfl rfl rfl rfl rfl (Ex_post (x11_isShelf (by omega)) ?_)
        rintro _ _ ⟨rfl, e0⟩
        obtain rfl := Eq.symm e0
        refine Ex_if_eq (t := 17) dX11_comes_4 rfl rfl (by omega) (fun c4 => absurd c4 (by omega)) (fun c4 => ?_)
        refine Ex_iload_n dX11_comes_7 rfl rfl ?_
        refine Ex_iconst dX11_comes_8 rfl ?_
        refine Ex_bipush dX11_comes_9 rfl (by decide) ?_
        refine Ex_stat 0 dX11_comes_11 rfl rfl (Or.inl rfl) rfl rfl rfl rfl rfl rfl (Ex_post (x11_within (by omega)) ?_)
        rintro _ _ ⟨rfl, e0⟩
        obtain rfl := Eq.symm e0
        refine Ex_if_ne (t := 19) dX11_comes_14 rfl rfl (by omega) (fun c14 => ?_) (fun c14 => absurd c14 (by omega))
        refine Ex_aload_n dX11_comes_19 rfl rfl ?_
        refine Ex_iload_n dX11_comes_20 rfl rfl ?_
        refine Ex_inv 2 dX11_comes_21 rfl rfl (Or.inl rfl) rfl rfl rfl rfl z0 rfl rfl rfl (Ex_post (x11_kindOn Z V (by omega)) ?_)
        rintro _ _ ⟨rfl, e0⟩
        obtain rfl := Eq.symm e0
        rw [kind_some ⟨q0.1, q1⟩]
        refine Ex_astore_n (L2 := [_, _, _, _]) dX11_comes_24 rfl rfl rfl ?_
        refine Ex_aload_n dX11_comes_25 rfl rfl ?_
        refine Ex_ifnonnull (t := 35) dX11_comes_26 rfl rfl ?_
        refine Ex_aload_n dX11_comes_35 rfl rfl ?_
        refine Ex_getf dX11_comes_36 rfl (by first | exact z0 | exact hr) rfl rfl rfl ?_
        refine Ex_inv 2 dX11_comes_39 rfl rfl (Or.inl rfl) rfl rfl rfl rfl hr rfl rfl rfl (Ex_post (x7_hasRoom R) ?_)
        rintro _ _ ⟨rfl, e0⟩
        obtain rfl := Eq.symm e0
        refine Ex_if_ne (t := 48) dX11_comes_42 rfl rfl (by omega) (fun c42 => ?_) (fun c42 => absurd c42 (by omega))
        refine Ex_aload_n dX11_comes_48 rfl rfl ?_
        refine Ex_getf dX11_comes_49 rfl (by first | exact z0 | exact hr) rfl rfl rfl ?_
        refine Ex_aload_n dX11_comes_52 rfl rfl ?_
        refine Ex_iload_n dX11_comes_53 rfl rfl ?_
        refine Ex_inv 2 dX11_comes_54 rfl rfl (Or.inl rfl) rfl rfl rfl rfl hr rfl rfl rfl (Ex_post (x7_add R (by omega) q2) ?_)
        rintro _ h9 ⟨rfl, R9, f9⟩
        refine Ex_aload_n dX11_comes_57 rfl rfl ?_
        refine Ex_getf dX11_comes_58 rfl ((f9.2 _ (by omega)).trans z0) rfl rfl rfl ?_
        refine Ex_getf dX11_comes_61 rfl R9.1 rfl rfl rfl ?_
        refine Ex_iconst dX11_comes_64 rfl ?_
        refine Ex_isub dX11_comes_65 rfl ?_
        refine Ex_iret dX11_comes_66 rfl rfl ?_
        obtain ⟨K1, hya⟩ := V.kind ⟨q0.1, q1⟩
        refine ⟨ri (by omega), ⟨_, tu, R9, ?_, ?_⟩, f9⟩
        · intro i hi
          by_cases e : i = n
          · subst e; rw [fu_at, fu_at, fu_at]; omega
          · rw [fu_ne e, fu_ne e, fu_ne e]; exact hg i (by omega)
        · intro i hi
          by_cases e : i = n
          · subst e
            rw [fu_at, fu_at]
            simp only [fuN, if_true]
            exact ⟨K1.kept (f9.2 _ (by omega)) (f9.2 _ (by omega)), hya⟩
          · rw [fu_ne e, fu_ne e]
            simp only [fuN, e, if_false]
            exact (ky.fr f9 (by omega)) i (by omega)
      · have ea : do_comes hw ck cf a t (n, m, K, F, T, S, C) = (-2, (n, m, K, F, T, S, C)) := by unfold do_comes; rw [if_pos q0, if_pos q1]; exact if_neg q2
        rw [ea]
        refine Ex_iload_n dX11_comes_0 rfl rfl ?_
        refine Ex_stat 0 dX11_comes_1 rfl rfl (Or.inl rfl) rfl rfl rfl rfl rfl rfl (Ex_post (x11_isShelf (by omega)) ?_)
        rintro _ _ ⟨rfl, e0⟩
        obtain rfl := Eq.symm e0
        refine Ex_if_eq (t := 17) dX11_comes_4 rfl rfl (by omega) (fun c4 => absurd c4 (by omega)) (fun c4 => ?_)
        refine Ex_iload_n dX11_comes_7 rfl rfl ?_
        refine Ex_iconst dX11_comes_8 rfl ?_
        refine Ex_bipush dX11_comes_9 rfl (by decide) ?_
        refine Ex_stat 0 dX11_comes_11 rfl rfl (Or.inl rfl) rfl rfl rfl rfl rfl rfl (Ex_post (x11_within (by omega)) ?_)
        rintro _ _ ⟨rfl, e0⟩
        obtain rfl := Eq.symm e0
        refine Ex_if_ne (t := 19) dX11_comes_14 rfl rfl (by omega) (fun c14 => ?_) (fun c14 => absurd c14 (by omega))
        refine Ex_aload_n dX11_comes_19 rfl rfl ?_
        refine Ex_iload_n dX11_comes_20 rfl rfl ?_
        refine Ex_inv 2 dX11_comes_21 rfl rfl (Or.inl rfl) rfl rfl rfl rfl z0 rfl rfl rfl (Ex_post (x11_kindOn Z V (by omega)) ?_)
        rintro _ _ ⟨rfl, e0⟩
        obtain rfl := Eq.symm e0
        rw [kind_some ⟨q0.1, q1⟩]
        refine Ex_astore_n (L2 := [_, _, _, _]) dX11_comes_24 rfl rfl rfl ?_
        refine Ex_aload_n dX11_comes_25 rfl rfl ?_
        refine Ex_ifnonnull (t := 35) dX11_comes_26 rfl rfl ?_
        refine Ex_aload_n dX11_comes_35 rfl rfl ?_
        refine Ex_getf dX11_comes_36 rfl (by first | exact z0 | exact hr) rfl rfl rfl ?_
        refine Ex_inv 2 dX11_comes_39 rfl rfl (Or.inl rfl) rfl rfl rfl rfl hr rfl rfl rfl (Ex_post (x7_hasRoom R) ?_)
        rintro _ _ ⟨rfl, e0⟩
        obtain rfl := Eq.symm e0
        refine Ex_if_ne (t := 48) dX11_comes_42 rfl rfl (by omega) (fun c42 => absurd c42 (by omega)) (fun c42 => ?_)
        refine Ex_bipush dX11_comes_45 rfl (by decide) ?_
        refine Ex_iret dX11_comes_47 rfl rfl ?_
        exact pst_same R hg ky
    · have ea : do_comes hw ck cf a t (n, m, K, F, T, S, C) = (why hw a, (n, m, K, F, T, S, C)) := by unfold do_comes; rw [if_pos q0]; exact if_neg q1
      rw [ea]
      refine Ex_iload_n dX11_comes_0 rfl rfl ?_
      refine Ex_stat 0 dX11_comes_1 rfl rfl (Or.inl rfl) rfl rfl rfl rfl rfl rfl (Ex_post (x11_isShelf (by omega)) ?_)
      rintro _ _ ⟨rfl, e0⟩
      obtain rfl := Eq.symm e0
      refine Ex_if_eq (t := 17) dX11_comes_4 rfl rfl (by omega) (fun c4 => absurd c4 (by omega)) (fun c4 => ?_)
      refine Ex_iload_n dX11_comes_7 rfl rfl ?_
      refine Ex_iconst dX11_comes_8 rfl ?_
      refine Ex_bipush dX11_comes_9 rfl (by decide) ?_
      refine Ex_stat 0 dX11_comes_11 rfl rfl (Or.inl rfl) rfl rfl rfl rfl rfl rfl (Ex_post (x11_within (by omega)) ?_)
      rintro _ _ ⟨rfl, e0⟩
      obtain rfl := Eq.symm e0
      refine Ex_if_ne (t := 19) dX11_comes_14 rfl rfl (by omega) (fun c14 => ?_) (fun c14 => absurd c14 (by omega))
      refine Ex_aload_n dX11_comes_19 rfl rfl ?_
      refine Ex_iload_n dX11_comes_20 rfl rfl ?_
      refine Ex_inv 2 dX11_comes_21 rfl rfl (Or.inl rfl) rfl rfl rfl rfl z0 rfl rfl rfl (Ex_post (x11_kindOn Z V (by omega)) ?_)
      rintro _ _ ⟨rfl, e0⟩
      obtain rfl := Eq.symm e0
      rw [kind_none (fun z => q1 z.2)]
      refine Ex_astore_nN (L2 := [_, _, _, _]) dX11_comes_24 rfl rfl rfl ?_
      refine Ex_aload_nN dX11_comes_25 rfl rfl ?_
      refine Ex_ifnonnullN (t := 35) dX11_comes_26 rfl rfl ?_
      refine Ex_aload_n dX11_comes_29 rfl rfl ?_
      refine Ex_iload_n dX11_comes_30 rfl rfl ?_
      refine Ex_inv 2 dX11_comes_31 rfl rfl (Or.inl rfl) rfl rfl rfl rfl z0 rfl rfl rfl (Ex_post (x11_whyNot Z V (by omega)) ?_)
      rintro _ _ ⟨rfl, e0⟩
      obtain rfl := Eq.symm e0
      refine Ex_iret dX11_comes_34 rfl rfl ?_
      exact pst_same R hg ky
  · have ea : do_comes hw ck cf a t (n, m, K, F, T, S, C) = (-1, (n, m, K, F, T, S, C)) := by unfold do_comes; exact if_neg q0
    rw [ea]
    refine Ex_iload_n dX11_comes_0 rfl rfl ?_
    refine Ex_stat 0 dX11_comes_1 rfl rfl (Or.inl rfl) rfl rfl rfl rfl rfl rfl (Ex_post (x11_isShelf (by omega)) ?_)
    rintro _ _ ⟨rfl, e0⟩
    obtain rfl := Eq.symm e0
    refine Ex_if_eq (t := 17) dX11_comes_4 rfl rfl (by omega) (fun c4 => ?_) (fun c4 => ?_)
    · refine Ex_iconst dX11_comes_17 rfl ?_
      refine Ex_iret dX11_comes_18 rfl rfl ?_
      exact pst_same R hg ky
    · refine Ex_iload_n dX11_comes_7 rfl rfl ?_
      refine Ex_iconst dX11_comes_8 rfl ?_
      refine Ex_bipush dX11_comes_9 rfl (by decide) ?_
      refine Ex_stat 0 dX11_comes_11 rfl rfl (Or.inl rfl) rfl rfl rfl rfl rfl rfl (Ex_post (x11_within (by omega)) ?_)
      rintro _ _ ⟨rfl, e0⟩
      obtain rfl := Eq.symm e0
      refine Ex_if_ne (t := 19) dX11_comes_14 rfl rfl (by omega) (fun c14 => ?_) (fun c14 => ?_)
      · exfalso; omega
      · refine Ex_iconst dX11_comes_17 rfl ?_
        refine Ex_iret dX11_comes_18 rfl rfl ?_
        exact pst_same R hg ky
theorem x11_cost {E : am_E} {d : Nat} {h : Hp} {x y : Nat} {hi : Int} {hw ck cf rs : Nat → Int} {rx : Nat → List Int} {sa : Nat → Nat} {a : Int}  (Z : Scr h x hi) (V : Shv h x y hw ck cf rs rx sa) (ha : (-2147483648 ≤ a ∧ a ≤ 2147483647))  : Ex E (d + 5) mX11_cost 0 [.ref x, .int (i32 a), .retAddr 0] [] h (fun r1 h1 => r1 = some (.int (i32 (an_cost hw ck cf a))) ∧ h1 = h) := by
  obtain ⟨⟨bs, z0⟩, -⟩ := id Z
  by_cases q : (0 ≤ a ∧ a ≤ 7) ∧ hw a.toNat = 1
  · obtain ⟨K1, hya⟩ := V.kind q
    refine Ex_aload_n dX11_cost_0 rfl rfl ?_
    refine Ex_iload_n dX11_cost_1 rfl rfl ?_
    refine Ex_inv 2 dX11_cost_2 rfl rfl (Or.inl rfl) rfl rfl rfl rfl z0 rfl rfl rfl (Ex_post (x11_kindOn Z V (by omega)) ?_)
    rintro _ _ ⟨rfl, e0⟩
    obtain rfl := Eq.symm e0
    rw [kind_some q]
    refine Ex_astore_n (L2 := [_, _, _]) dX11_cost_5 rfl rfl rfl ?_
    refine Ex_aload_n dX11_cost_6 rfl rfl ?_
    refine Ex_ifnonnull (t := 18) dX11_cost_7 rfl rfl ?_
    refine Ex_aload_n dX11_cost_18 rfl rfl ?_
    refine Ex_getf dX11_cost_19 rfl (by first | exact z0 | exact K1.1) rfl (ktag_in _) rfl ?_
    refine Ex_iret dX11_cost_22 rfl rfl ?_
    exact ⟨ri (by unfold an_cost; rw [if_pos q]), rfl⟩
  · refine Ex_aload_n dX11_cost_0 rfl rfl ?_
    refine Ex_iload_n dX11_cost_1 rfl rfl ?_
    refine Ex_inv 2 dX11_cost_2 rfl rfl (Or.inl rfl) rfl rfl rfl rfl z0 rfl rfl rfl (Ex_post (x11_kindOn Z V (by omega)) ?_)
    rintro _ _ ⟨rfl, e0⟩
    obtain rfl := Eq.symm e0
    rw [kind_none q]
    refine Ex_astore_nN (L2 := [_, _, _]) dX11_cost_5 rfl rfl rfl ?_
    refine Ex_aload_nN dX11_cost_6 rfl rfl ?_
    refine Ex_ifnonnullN (t := 18) dX11_cost_7 rfl rfl ?_
    refine Ex_aload_n dX11_cost_10 rfl rfl ?_
    refine Ex_iload_n dX11_cost_11 rfl rfl ?_
    refine Ex_inv 2 dX11_cost_12 rfl rfl (Or.inl rfl) rfl rfl rfl rfl z0 rfl rfl rfl (Ex_post (x11_whyNot Z V (by omega)) ?_)
    rintro _ _ ⟨rfl, e0⟩
    obtain rfl := Eq.symm e0
    refine Ex_goto (t := 22) dX11_cost_15 rfl ?_
    refine Ex_iret dX11_cost_22 rfl rfl ?_
    exact ⟨ri (by unfold an_cost; rw [if_neg q]), rfl⟩
theorem x11_image {E : am_E} {d : Nat} {h : Hp} {x y n : Nat} {hi m tu : Int} {kr : Nat → Nat} {K F T S C : Nat → Int}  (Z : Scr h x hi) (R : RailAt h (x + 10) n m tu kr T S C) (hg : Rng n T S C) (ky : KY h y n kr K F) (hB : E.2 ≤ x) (hy : x + 57 ≤ y) (I9 : RailAny h (x + 19))  : Ex E (d + 2) mX11_image 0 [.ref x] [] h (fun r1 h1 => r1 = some (.int (i32 m)) ∧ Scr h1 x 1 ∧ RailAt h1 (x + 19) n m 0 kr T S C ∧ h1.2 = h.2 ∧ ∀ q, q ≠ x → ¬ (x + 19 ≤ q ∧ q < x + 28) → h1.1 q = h.1 q) := by
  obtain ⟨⟨bs, z0⟩, z1, ⟨f2, z2⟩, ⟨f3, z3⟩, ⟨f4, z4⟩, ⟨f5, z5⟩, zr0, zr1, zr2, ⟨k5, t5, s5, c5, z55⟩, ⟨k6, t6, s6, c6, z56⟩⟩ := id Z
  obtain ⟨hr, hA, hP, hG, hn6⟩ := id R
  have kk := ky.ok (r := x + 10) (by omega)
  obtain ⟨n7, m7, tu7, kr7, T7, S7, C7, R7⟩ := id I9
  refine Ex_aload_n dX11_image_0 rfl rfl ?_
  refine Ex_getf dX11_image_1 rfl z0 rfl rfl rfl ?_
  refine Ex_aload_n dX11_image_4 rfl rfl ?_
  refine Ex_getf dX11_image_5 rfl z0 rfl rfl rfl ?_
  refine Ex_inv 2 dX11_image_8 rfl rfl (Or.inl rfl) rfl rfl rfl rfl R7.1 rfl rfl rfl (Ex_post (x7_setTo R7 R (by omega) (by omega)) ?_)
  rintro _ h9 ⟨rfl, R9, f9⟩
  refine Ex_aload_n dX11_image_11 rfl rfl ?_
  refine Ex_iconst dX11_image_12 rfl ?_
  refine Ex_putf (fs2 := [_, _, _, _, _, _, _, _, _, _, _, _, _]) dX11_image_13 rfl (by first | exact (am_pg2 (by omega)).trans ((f9.2 _ (by omega)).trans hr) | exact am_pg1 _ _ _ | exact (f9.2 _ (by omega)).trans z0) rfl rfl rfl rfl rfl (by omega) rfl ?_
  try rw [am_put2]
  refine Ex_aload_n dX11_image_16 rfl rfl ?_
  refine Ex_getf dX11_image_17 rfl (by first | exact (am_pg2 (by omega)).trans ((f9.2 _ (by omega)).trans hr) | exact am_pg1 _ _ _ | exact (f9.2 _ (by omega)).trans z0) rfl rfl rfl ?_
  refine Ex_getf dX11_image_20 rfl (by first | exact (am_pg2 (by omega)).trans ((f9.2 _ (by omega)).trans hr) | exact am_pg1 _ _ _ | exact (f9.2 _ (by omega)).trans z0) rfl rfl rfl ?_
  refine Ex_iret dX11_image_23 rfl rfl ?_
  have e1 : ∀ q, q ≠ x → ¬ (x + 19 ≤ q ∧ q < x + 28) → (am_put h9 x (ccell x 1 bs)).1 q = h.1 q := fun q h1 h2 => (am_pg2 h1).trans (f9.2 q (by omega))
  refine ⟨rfl, ⟨⟨bs, am_pg1 _ _ _⟩, (e1 _ (by omega) (by omega)).trans z1, ⟨f2, (e1 _ (by omega) (by omega)).trans z2⟩, ⟨f3, (e1 _ (by omega) (by omega)).trans z3⟩, ⟨f4, (e1 _ (by omega) (by omega)).trans z4⟩, ⟨f5, (e1 _ (by omega) (by omega)).trans z5⟩, zr0.eq (fun q _ _ => e1 q (by omega) (by omega)), zr1.eq (fun q _ _ => e1 q (by omega) (by omega)), zr2.eq (fun q _ _ => e1 q (by omega) (by omega)), PupAny.eq ⟨k5, t5, s5, c5, z55⟩ (e1 _ (by omega) (by omega)), PupAny.eq ⟨k6, t6, s6, c6, z56⟩ (e1 _ (by omega) (by omega))⟩, ?_, f9.1, e1⟩
  exact R9.fr (Fr.put (lo := x) (hi := x + 1) _ (by omega)) (by omega)
theorem x11_restore0 {E : am_E} {d : Nat} {h : Hp} {x y n : Nat} {hi m tu : Int} {kr : Nat → Nat} {K F T S C : Nat → Int}  (Z : Scr h x hi) (R : RailAt h (x + 10) n m tu kr T S C) (hg : Rng n T S C) (ky : KY h y n kr K F) (hB : E.2 ≤ x) (hy : x + 57 ≤ y) (h0 : hi = 0)  : Ex E (d + 2) mX11_restore 0 [.ref x] [] h (fun r1 h1 => r1 = some (.int (i32 (-3))) ∧ h1 = h) := by
  obtain ⟨⟨bs, z0⟩, z1, ⟨f2, z2⟩, ⟨f3, z3⟩, ⟨f4, z4⟩, ⟨f5, z5⟩, zr0, zr1, zr2, ⟨k5, t5, s5, c5, z55⟩, ⟨k6, t6, s6, c6, z56⟩⟩ := id Z
  obtain ⟨hr, hA, hP, hG, hn6⟩ := id R
  have kk := ky.ok (r := x + 10) (by omega)
  refine Ex_aload_n dX11_restore_0 rfl rfl ?_
  refine Ex_getf dX11_restore_1 rfl z0 rfl rfl rfl ?_
  refine Ex_if_ne (t := 10) dX11_restore_4 rfl rfl (by omega) (fun c4 => absurd c4 (by omega)) (fun c4 => ?_)
  refine Ex_bipush dX11_restore_7 rfl (by decide) ?_
  refine Ex_iret dX11_restore_9 rfl rfl ?_
  exact ⟨rfl, rfl⟩
theorem x11_restore1 {E : am_E} {d : Nat} {h : Hp} {x y n : Nat} {hi m tu : Int} {kr : Nat → Nat} {K F T S C : Nat → Int} {nI : Nat} {mI tuI : Int} {krI : Nat → Nat} {TI SI CI : Nat → Int}  (Z : Scr h x hi) (R : RailAt h (x + 10) n m tu kr T S C) (hg : Rng n T S C) (ky : KY h y n kr K F) (hB : E.2 ≤ x) (hy : x + 57 ≤ y) (h0 : hi = 1) (RI : RailAt h (x + 19) nI mI tuI krI TI SI CI)  : Ex E (d + 2) mX11_restore 0 [.ref x] [] h (fun r1 h1 => r1 = some (.int (i32 mI)) ∧ RailAt h1 (x + 10) nI mI 0 krI TI SI CI ∧ Fr h h1 (x + 10) (x + 19)) := by
  obtain ⟨⟨bs, z0⟩, z1, ⟨f2, z2⟩, ⟨f3, z3⟩, ⟨f4, z4⟩, ⟨f5, z5⟩, zr0, zr1, zr2, ⟨k5, t5, s5, c5, z55⟩, ⟨k6, t6, s6, c6, z56⟩⟩ := id Z
  obtain ⟨hr, hA, hP, hG, hn6⟩ := id R
  have kk := ky.ok (r := x + 10) (by omega)
  refine Ex_aload_n dX11_restore_0 rfl rfl ?_
  refine Ex_getf dX11_restore_1 rfl z0 rfl rfl rfl ?_
  refine Ex_if_ne (t := 10) dX11_restore_4 rfl rfl (by omega) (fun c4 => ?_) (fun c4 => absurd c4 (by omega))
  refine Ex_aload_n dX11_restore_10 rfl rfl ?_
  refine Ex_getf dX11_restore_11 rfl z0 rfl rfl rfl ?_
  refine Ex_aload_n dX11_restore_14 rfl rfl ?_
  refine Ex_getf dX11_restore_15 rfl z0 rfl rfl rfl ?_
  refine Ex_inv 2 dX11_restore_18 rfl rfl (Or.inl rfl) rfl rfl rfl rfl hr rfl rfl rfl (Ex_post (x7_setTo R RI (by omega) (by omega)) ?_)
  rintro _ h9 ⟨rfl, R9, f9⟩
  refine Ex_aload_n dX11_restore_21 rfl rfl ?_
  refine Ex_getf dX11_restore_22 rfl ((f9.2 _ (by omega)).trans z0) rfl rfl rfl ?_
  refine Ex_getf dX11_restore_25 rfl R9.1 rfl rfl rfl ?_
  refine Ex_iret dX11_restore_28 rfl rfl ?_
  exact ⟨rfl, R9, f9⟩
theorem x11_keep_no {E : am_E} {d : Nat} {h : Hp} {x y : Nat} {hi : Int} {hw ck cf rs : Nat → Int} {rx : Nat → List Int} {sa : Nat → Nat} {a b k f : Int}  (Z : Scr h x hi) (V : Shv h x y hw ck cf rs rx sa) (w : WF h) (hB : E.2 ≤ x) (hy : x + 57 ≤ y) (hyh : y ≤ h.2.1) (ha : (-2147483648 ≤ a ∧ a ≤ 2147483647)) (hb : (-2147483648 ≤ b ∧ b ≤ 2147483647)) (hk : (-2147483648 ≤ k ∧ k ≤ 2147483647)) (hf : (-2147483648 ≤ f ∧ f ≤ 2147483647)) (q : ¬ ok_keep a b k f)  : Ex E (d + 5) mX11_keep 0 [.ref x, .int (i32 a), .int (i32 b), .int (i32 k), .int (i32 f)] [] h (fun r1 h1 => r1 = some (.int (i32 (-1))) ∧ h1 = h) := by
  obtain ⟨⟨bs, z0⟩, z1, z2⟩ := id Z
  obtain ⟨v1, v2, v3, v4⟩ := id V
  unfold ok_keep at q
  refine Ex_iload_n dX11_keep_0 rfl rfl ?_
  refine Ex_stat 0 dX11_keep_1 rfl rfl (Or.inl rfl) rfl rfl rfl rfl rfl rfl (Ex_post (x11_isShelf (by omega)) ?_)
  rintro _ _ ⟨rfl, e0⟩
  obtain rfl := Eq.symm e0
  refine Ex_if_eq (t := 16) dX11_keep_4 rfl rfl (by omega) (fun c4 => ?_) (fun c4 => ?_)
  · refine Ex_iconst dX11_keep_16 rfl ?_
    refine Ex_iret dX11_keep_17 rfl rfl ?_
    exact ⟨rfl, rfl⟩
  · refine Ex_iload_n dX11_keep_7 rfl rfl ?_
    refine Ex_iconst dX11_keep_8 rfl ?_
    refine Ex_iconst dX11_keep_9 rfl ?_
    refine Ex_stat 0 dX11_keep_10 rfl rfl (Or.inl rfl) rfl rfl rfl rfl rfl rfl (Ex_post (x11_within (by omega)) ?_)
    rintro _ _ ⟨rfl, e0⟩
    obtain rfl := Eq.symm e0
    refine Ex_if_ne (t := 18) dX11_keep_13 rfl rfl (by omega) (fun c13 => ?_) (fun c13 => ?_)
    · refine Ex_iload_n dX11_keep_18 rfl rfl ?_
      refine Ex_iconst dX11_keep_19 rfl ?_
      refine Ex_icmp_ne (t := 46) dX11_keep_20 rfl rfl (by omega) (fun c20 => ?_) (fun c20 => ?_)
      · exfalso
        exact q ⟨by omega, fun _ => by omega⟩
      · refine Ex_iload_n dX11_keep_23 rfl rfl ?_
        refine Ex_iconst dX11_keep_24 rfl ?_
        refine Ex_bipush dX11_keep_25 rfl (by decide) ?_
        refine Ex_stat 0 dX11_keep_27 rfl rfl (Or.inl rfl) rfl rfl rfl rfl rfl rfl (Ex_post (x11_within (by omega)) ?_)
        rintro _ _ ⟨rfl, e0⟩
        obtain rfl := Eq.symm e0
        refine Ex_if_eq (t := 44) dX11_keep_30 rfl rfl (by omega) (fun c30 => ?_) (fun c30 => ?_)
        · refine Ex_iconst dX11_keep_44 rfl ?_
          refine Ex_iret dX11_keep_45 rfl rfl ?_
          exact ⟨rfl, rfl⟩
        · refine Ex_iload dX11_keep_33 rfl rfl ?_
          refine Ex_iconst dX11_keep_35 rfl ?_
          refine Ex_bipush dX11_keep_36 rfl (by decide) ?_
          refine Ex_stat 0 dX11_keep_38 rfl rfl (Or.inl rfl) rfl rfl rfl rfl rfl rfl (Ex_post (x11_within (by omega)) ?_)
          rintro _ _ ⟨rfl, e0⟩
          obtain rfl := Eq.symm e0
          refine Ex_if_ne (t := 46) dX11_keep_41 rfl rfl (by omega) (fun c41 => ?_) (fun c41 => ?_)
          · exfalso
            exact q ⟨by omega, fun _ => by omega⟩
          · refine Ex_iconst dX11_keep_44 rfl ?_
            refine Ex_iret dX11_keep_45 rfl rfl ?_
            exact ⟨rfl, rfl⟩
    · refine Ex_iconst dX11_keep_16 rfl ?_
      refine Ex_iret dX11_keep_17 rfl rfl ?_
      exact ⟨rfl, rfl⟩
theorem x11_keep_0 {E : am_E} {d : Nat} {h : Hp} {x y : Nat} {hi : Int} {hw ck cf rs : Nat → Int} {rx : Nat → List Int} {sa : Nat → Nat} {a k f : Int}  (Z : Scr h x hi) (V : Shv h x y hw ck cf rs rx sa) (w : WF h) (hB : E.2 ≤ x) (hy : x + 57 ≤ y) (hyh : y ≤ h.2.1) (ha : (-2147483648 ≤ a ∧ a ≤ 2147483647)) (hk : (-2147483648 ≤ k ∧ k ≤ 2147483647)) (hf : (-2147483648 ≤ f ∧ f ≤ 2147483647)) (q : ok_keep a 0 k f)  : Ex E (d + 5) mX11_keep 0 [.ref x, .int (i32 a), .int (i32 0), .int (i32 k), .int (i32 f)] [] h (fun r1 h1 => r1 = some (.int (i32 0)) ∧ (∃ sa2, Shv h1 x y (fu hw a.toNat 0) (fu ck a.toNat 0) (fu cf a.toNat 0) rs rx sa2) ∧ Gr h h1 (x + 6) (x + 8) 2 16) := by
  obtain ⟨⟨bs, z0⟩, z1, z2⟩ := id Z
  obtain ⟨v1, v2, v3, v4⟩ := id V
  obtain ⟨⟨qa, -⟩, qk⟩ := q
  obtain ⟨d0, rfl⟩ := Int.eq_ofNat_of_zero_le qa.1
  have hd8 : d0 < 8 := by omega
  refine Ex_iload_n dX11_keep_0 rfl rfl ?_
  refine Ex_stat 0 dX11_keep_1 rfl rfl (Or.inl rfl) rfl rfl rfl rfl rfl rfl (Ex_post (x11_isShelf (by omega)) ?_)
  rintro _ _ ⟨rfl, e0⟩
  obtain rfl := Eq.symm e0
  refine Ex_if_eq (t := 16) dX11_keep_4 rfl rfl (by omega) (fun c4 => absurd c4 (by omega)) (fun c4 => ?_)
  refine Ex_iload_n dX11_keep_7 rfl rfl ?_
  refine Ex_iconst dX11_keep_8 rfl ?_
  refine Ex_iconst dX11_keep_9 rfl ?_
  refine Ex_stat 0 dX11_keep_10 rfl rfl (Or.inl rfl) rfl rfl rfl rfl rfl rfl (Ex_post (x11_within (by omega)) ?_)
  rintro _ _ ⟨rfl, e0⟩
  obtain rfl := Eq.symm e0
  refine Ex_if_ne (t := 18) dX11_keep_13 rfl rfl (by omega) (fun c13 => ?_) (fun c13 => absurd c13 (by omega))
  refine Ex_iload_n dX11_keep_18 rfl rfl ?_
  refine Ex_iconst dX11_keep_19 rfl ?_
  refine Ex_icmp_ne (t := 46) dX11_keep_20 rfl rfl (by omega) (fun c20 => ?_) (fun c20 => absurd c20 (by omega))
  refine Ex_aload_n dX11_keep_46 rfl rfl ?_
  refine Ex_getf dX11_keep_47 rfl z0 rfl rfl rfl ?_
  refine Ex_iload_n dX11_keep_50 rfl rfl ?_
  refine Ex_null dX11_keep_51 rfl ?_
  refine Ex_aastN dX11_keep_52 rfl v2 (by omega) (by omega) (by simp; omega) (by omega) (va8_set hd8) ?_
  refine Ex_aload_n dX11_keep_53 rfl rfl ?_
  refine Ex_getf dX11_keep_54 rfl ((am_pg2 (by omega)).trans z0) rfl rfl rfl ?_
  refine Ex_iload_n dX11_keep_57 rfl rfl ?_
  refine Ex_iload_n dX11_keep_58 rfl rfl ?_
  refine Ex_if_ne (t := 66) dX11_keep_59 rfl rfl (by omega) (fun c59 => absurd c59 (by omega)) (fun c59 => ?_)
  refine Ex_null dX11_keep_62 rfl ?_
  refine Ex_goto (t := 72) dX11_keep_63 rfl ?_
  refine Ex_aastN dX11_keep_72 rfl ((am_pg2 (by omega)).trans v1) (by omega) (by omega) (by simp; omega) (by omega) (va8_set hd8) ?_
  refine Ex_iconst dX11_keep_73 rfl ?_
  refine Ex_iret dX11_keep_74 rfl rfl ?_
  have f1 : Fr h (am_put h (x + 7) (25, va8 (fuV (rv hw sa) d0 .null))) (x + 6) (x + 8) := Fr.put _ (by omega)
  have g1 : Gr h (am_put (am_put h (x + 7) (25, va8 (fuV (rv hw sa) d0 .null))) (x + 6) (24, va8 (fuV (kv hw sa) d0 .null))) (x + 6) (x + 8) 2 16 := (f1.trans (Fr.put _ (by omega))).gr w (by omega) _ _
  have eV := Shv.upd (w := 0) (a := 0) (ck1 := 0) (cf1 := 0) (rs1 := rs d0) (rx1 := rx d0) V g1 hy hd8 (by rw [if_neg (by decide)]; exact am_pg1 _ _ _) (by rw [if_neg (by decide)]; exact (am_pg2 (by omega)).trans (am_pg1 _ _ _)) (by decide) (fun z => absurd z (by decide)) (fun z => absurd z (by decide)) (fun z => absurd rfl z)
  rw [fu_same, fuL_same] at eV
  exact ⟨rfl, ⟨_, eV⟩, g1⟩
theorem x11_keep_1 {E : am_E} {d : Nat} {h : Hp} {x y : Nat} {hi : Int} {hw ck cf rs : Nat → Int} {rx : Nat → List Int} {sa : Nat → Nat} {a k f : Int}  (Z : Scr h x hi) (V : Shv h x y hw ck cf rs rx sa) (w : WF h) (hB : E.2 ≤ x) (hy : x + 57 ≤ y) (hyh : y ≤ h.2.1) (ha : (-2147483648 ≤ a ∧ a ≤ 2147483647)) (hk : (-2147483648 ≤ k ∧ k ≤ 2147483647)) (hf : (-2147483648 ≤ f ∧ f ≤ 2147483647)) (q : ok_keep a 1 k f)  : Ex E (d + 5) mX11_keep 0 [.ref x, .int (i32 a), .int (i32 1), .int (i32 k), .int (i32 f)] [] h (fun r1 h1 => r1 = some (.int (i32 0)) ∧ (∃ sa2, Shv h1 x y (fu hw a.toNat 1) (fu ck a.toNat k) (fu cf a.toNat f) rs rx sa2) ∧ Gr h h1 (x + 6) (x + 8) 2 16) := by
  obtain ⟨⟨bs, z0⟩, z1, z2⟩ := id Z
  obtain ⟨v1, v2, v3, v4⟩ := id V
  obtain ⟨⟨qa, -⟩, qk⟩ := q
  obtain ⟨d0, rfl⟩ := Int.eq_ofNat_of_zero_le qa.1
  have hd8 : d0 < 8 := by omega
  have qk2 := qk rfl
  refine Ex_iload_n dX11_keep_0 rfl rfl ?_
  refine Ex_stat 0 dX11_keep_1 rfl rfl (Or.inl rfl) rfl rfl rfl rfl rfl rfl (Ex_post (x11_isShelf (by omega)) ?_)
  rintro _ _ ⟨rfl, e0⟩
  obtain rfl := Eq.symm e0
  refine Ex_if_eq (t := 16) dX11_keep_4 rfl rfl (by omega) (fun c4 => absurd c4 (by omega)) (fun c4 => ?_)
  refine Ex_iload_n dX11_keep_7 rfl rfl ?_
  refine Ex_iconst dX11_keep_8 rfl ?_
  refine Ex_iconst dX11_keep_9 rfl ?_
  refine Ex_stat 0 dX11_keep_10 rfl rfl (Or.inl rfl) rfl rfl rfl rfl rfl rfl (Ex_post (x11_within (by omega)) ?_)
  rintro _ _ ⟨rfl, e0⟩
  obtain rfl := Eq.symm e0
  refine Ex_if_ne (t := 18) dX11_keep_13 rfl rfl (by omega) (fun c13 => ?_) (fun c13 => absurd c13 (by omega))
  refine Ex_iload_n dX11_keep_18 rfl rfl ?_
  refine Ex_iconst dX11_keep_19 rfl ?_
  refine Ex_icmp_ne (t := 46) dX11_keep_20 rfl rfl (by omega) (fun c20 => absurd c20 (by omega)) (fun c20 => ?_)
  refine Ex_iload_n dX11_keep_23 rfl rfl ?_
  refine Ex_iconst dX11_keep_24 rfl ?_
  refine Ex_bipush dX11_keep_25 rfl (by decide) ?_
  refine Ex_stat 0 dX11_keep_27 rfl rfl (Or.inl rfl) rfl rfl rfl rfl rfl rfl (Ex_post (x11_within (by omega)) ?_)
  rintro _ _ ⟨rfl, e0⟩
  obtain rfl := Eq.symm e0
  refine Ex_if_eq (t := 44) dX11_keep_30 rfl rfl (by omega) (fun c30 => absurd c30 (by omega)) (fun c30 => ?_)
  refine Ex_iload dX11_keep_33 rfl rfl ?_
  refine Ex_iconst dX11_keep_35 rfl ?_
  refine Ex_bipush dX11_keep_36 rfl (by decide) ?_
  refine Ex_stat 0 dX11_keep_38 rfl rfl (Or.inl rfl) rfl rfl rfl rfl rfl rfl (Ex_post (x11_within (by omega)) ?_)
  rintro _ _ ⟨rfl, e0⟩
  obtain rfl := Eq.symm e0
  refine Ex_if_ne (t := 46) dX11_keep_41 rfl rfl (by omega) (fun c41 => ?_) (fun c41 => absurd c41 (by omega))
  refine Ex_aload_n dX11_keep_46 rfl rfl ?_
  refine Ex_getf dX11_keep_47 rfl z0 rfl rfl rfl ?_
  refine Ex_iload_n dX11_keep_50 rfl rfl ?_
  refine Ex_null dX11_keep_51 rfl ?_
  refine Ex_aastN dX11_keep_52 rfl v2 (by omega) (by omega) (by simp; omega) (by omega) (va8_set hd8) ?_
  refine Ex_aload_n dX11_keep_53 rfl rfl ?_
  refine Ex_getf dX11_keep_54 rfl ((am_pg2 (by omega)).trans z0) rfl rfl rfl ?_
  refine Ex_iload_n dX11_keep_57 rfl rfl ?_
  refine Ex_iload_n dX11_keep_58 rfl rfl ?_
  refine Ex_if_ne (t := 66) dX11_keep_59 rfl rfl (by omega) (fun c59 => ?_) (fun c59 => absurd c59 (by omega))
  refine Ex_iload_n dX11_keep_66 rfl rfl ?_
  refine Ex_iload dX11_keep_67 rfl rfl ?_
  refine Ex_stat 0 dX11_keep_69 rfl rfl (Or.inl rfl) rfl rfl rfl rfl rfl rfl (Ex_post (x1_of (by show E.2 ≤ h.2.1; omega) qk2.1 qk2.2) ?_)
  rintro _ h3 ⟨rfl, K3, e3, q3⟩
  have K3 : KindAt h3 h.2.1 k f := K3
  refine Ex_aast dX11_keep_72 rfl ((q3 _ (by show x + 6 ≠ h.2.1; omega) (by show x + 6 ≠ h.2.1 + 1; omega)).trans ((am_pg2 (by omega)).trans v1)) K3.1 (by omega) (ktag_in _) (by omega) (by simp; omega) (by omega) (va8_set hd8) ?_
  refine Ex_iconst dX11_keep_73 rfl ?_
  refine Ex_iret dX11_keep_74 rfl rfl ?_
  have f1 : Fr h (am_put h (x + 7) (25, va8 (fuV (rv hw sa) d0 .null))) (x + 6) (x + 8) := Fr.put _ (by omega)
  have g1 := f1.gr w (by omega) 0 0
  have hn2 : (am_put h (x + 7) (25, va8 (fuV (rv hw sa) d0 .null))).2 = h.2 := rfl
  have g2 := of_gr g1.2.1 e3 q3 (x + 8)
  have n3 : h3.2.1 = h.2.1 + 2 := by rw [e3]; rfl
  have f4 : Fr h3 (am_put h3 (x + 6) (24, va8 (fuV (kv hw sa) d0 (.ref h.2.1)))) (x + 6) (x + 8) := Fr.put _ (by omega)
  have g3 := f4.gr g2.2.1 (by omega) 0 0
  have g4 : Gr h (am_put h3 (x + 6) (24, va8 (fuV (kv hw sa) d0 (.ref h.2.1)))) (x + 6) (x + 8) 2 16 := (g1.trans (g2.wide (by omega) (by omega) (Nat.le_refl _) (Nat.le_refl _))).trans g3
  have eV := Shv.upd (w := 1) (a := h.2.1) (ck1 := k) (cf1 := f) (rs1 := rs d0) (rx1 := rx d0) V g4 hy hd8 (by rw [if_pos rfl]; exact am_pg1 _ _ _) (by rw [if_neg (by decide)]; exact (am_pg2 (by omega)).trans ((q3 _ (by show x + 7 ≠ h.2.1; omega) (by show x + 7 ≠ h.2.1 + 1; omega)).trans (am_pg1 _ _ _))) (by decide) (fun _ => K3.kept (am_pg2 (by show h.2.1 ≠ _; omega)) (am_pg2 (by show h.2.1 + 1 ≠ _; omega))) (fun z => absurd z (by decide)) (fun _ => hyh)
  rw [fu_same, fuL_same] at eV
  exact ⟨rfl, ⟨_, eV⟩, g4⟩
