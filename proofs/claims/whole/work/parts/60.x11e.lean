/-! told minutes (by program: wip/whole/spec_r.py) -/
theorem row_some {hw : Nat → Int} {sa : Nat → Nat} {d : Int} (q : (0 ≤ d ∧ d ≤ 7) ∧ hw d.toNat = 2) : (if (0 ≤ d ∧ d ≤ 7) then rv hw sa d.toNat else .null) = Value.ref (sa d.toNat) := by
  rw [if_pos q.1]; exact if_pos q.2
theorem row_none {hw : Nat → Int} {sa : Nat → Nat} {d : Int} (q : ¬ ((0 ≤ d ∧ d ≤ 7) ∧ hw d.toNat = 2)) : (if (0 ≤ d ∧ d ≤ 7) then rv hw sa d.toNat else .null) = Value.null := by
  by_cases c : 0 ≤ d ∧ d ≤ 7
  · rw [if_pos c]; exact if_neg (fun z => q ⟨c, z⟩)
  · rw [if_neg c]
theorem kind_some {hw : Nat → Int} {sa : Nat → Nat} {d : Int} (q : (0 ≤ d ∧ d ≤ 7) ∧ hw d.toNat = 1) : (if (0 ≤ d ∧ d ≤ 7) then kv hw sa d.toNat else .null) = Value.ref (sa d.toNat) := by
  rw [if_pos q.1]; exact if_pos q.2
theorem kind_none {hw : Nat → Int} {sa : Nat → Nat} {d : Int} (q : ¬ ((0 ≤ d ∧ d ≤ 7) ∧ hw d.toNat = 1)) : (if (0 ≤ d ∧ d ≤ 7) then kv hw sa d.toNat else .null) = Value.null := by
  by_cases c : 0 ≤ d ∧ d ≤ 7
  · rw [if_pos c]; exact if_neg (fun z => q ⟨c, z⟩)
  · rw [if_neg c]
theorem Shv.row {h : Hp} {x y : Nat} {hw ck cf rs : Nat → Int} {rx : Nat → List Int} {sa : Nat → Nat} {d : Int} (V : Shv h x y hw ck cf rs rx sa) (q : (0 ≤ d ∧ d ≤ 7) ∧ hw d.toNat = 2) : RowAt h (sa d.toNat) (rs d.toNat) (rx d.toNat) ∧ y ≤ sa d.toNat := by
  obtain ⟨v1, v2, v3, v4⟩ := V
  obtain ⟨s1, s2, s3, s4⟩ := v3 d.toNat (by omega)
  exact ⟨s3 q.2, s4 (by omega)⟩
theorem Shv.kind {h : Hp} {x y : Nat} {hw ck cf rs : Nat → Int} {rx : Nat → List Int} {sa : Nat → Nat} {d : Int} (V : Shv h x y hw ck cf rs rx sa) (q : (0 ≤ d ∧ d ≤ 7) ∧ hw d.toNat = 1) : KindAt h (sa d.toNat) (ck d.toNat) (cf d.toNat) ∧ y ≤ sa d.toNat := by
  obtain ⟨v1, v2, v3, v4⟩ := V
  obtain ⟨s1, s2, s3, s4⟩ := v3 d.toNat (by omega)
  exact ⟨s2 q.2, s4 (by omega)⟩
theorem RowAt.frS {h h1 : Hp} {a x : Nat} {so : Int} {xs : List Int} (W : RowAt h a so xs) (f : FrS h h1 x) (ha : x + 57 ≤ a) : RowAt h1 a so xs := W.kept (f.2 _ (by omega)) (f.2 _ (by omega))
def an_forged (hw rs : Nat → Int) (rx : Nat → List Int) (X : RS) (d : Int) : Int :=
  if (0 ≤ d ∧ d ≤ 7) ∧ hw d.toNat = 2 then (if (rx d.toNat).length % 2 = 0 then fgd (rx d.toNat) X 0 ((rx d.toNat).length / 2) else -13) else why hw d
def an_judge (hw rs : Nat → Int) (rx : Nat → List Int) (n : Nat) (m : Int) (K F T S C : Nat → Int) (d c : Int) : Int :=
  if (0 ≤ d ∧ d ≤ 7) ∧ (0 ≤ c ∧ c < (n : Int)) then (if hw d.toNat = 2 then jdg K F n c.toNat (rs d.toNat) (rx d.toNat) (m, 0, T, S, C) 0 (rx d.toNat).length else why hw d) else -1
/-- DRAWS -/
def sdn (z : Int32) : Int32 := z * i32 1103515245 + i32 12345
def msk (z : Int32) : Int := (z &&& i32 2147483647).toInt
theorem msk_ok (z : Int32) : z &&& i32 2147483647 = i32 (msk z) := i32_of _
theorem msk_r (z : Int32) : 0 ≤ msk z ∧ msk z ≤ 2147483647 := by
  refine ⟨?_, (i32_rng _).2⟩
  unfold msk
  rw [← Int32.toInt_toBitVec, Int32.toBitVec_and, BitVec.toInt_eq_msb_cond, BitVec.msb_and]
  have e : (i32 2147483647).toBitVec.msb = false := by decide
  rw [e, Bool.and_false]
  simp
def dr (n : Int) (z : Int32) : Int := msk z / 65536 % n
theorem dr_r {n : Int} {z : Int32} (hn : 0 < n) : 0 ≤ dr n z ∧ dr n z < n := ⟨Int.emod_nonneg _ (by omega), Int.emod_lt_of_pos _ hn⟩
/-- WEEKS: k MINUTES more of one of them -/
def wkI (n : Nat) (K F : Nat → Int) (m : Int) (T S C : Nat → Int) (sd : Int32) (sw : Int) : Nat → RS × Int32 × Int
  | 0 => ((n, m, K, F, T, S, C), sd, sw)
  | k + 1 => if S (dr n (sdn sd)).toNat < 7 then wkI n K F (m + 1) (minT n (dr n (sdn sd)).toNat (dr 4 (sdn (sdn sd))) K F T S C) (mnS (dr n (sdn sd)).toNat (dr 4 (sdn (sdn sd))) K F T S) (minC n (dr n (sdn sd)).toNat (dr 4 (sdn (sdn sd))) K F T S C) (sdn (sdn sd)) (if mnW (dr n (sdn sd)).toNat (dr 4 (sdn (sdn sd))) K F T S = 0 then sw else sw + 1) k
    else wkI n K F m T S C (sdn (sdn sd)) sw k
def wkO (n : Nat) (K F : Nat → Int) (m : Int) (T S C : Nat → Int) (sd : Int32) (st sw : Int) : Nat → Int × Int
  | 0 => (st, sw)
  | k + 1 => wkO n K F m T S C (wkI n K F m T S C sd sw 10).2.1 (st + (sm (wkI n K F m T S C sd sw 10).1.2.2.2.2.2.1 0 n - sm S 0 n)) (wkI n K F m T S C sd sw 10).2.2 k
def an_weeks (n : Nat) (m : Int) (K F T S C : Nat → Int) (l : Int) (z : Int32) (w : Int) : Int :=
  if (1 ≤ l ∧ l ≤ 20) ∧ (0 ≤ w ∧ w ≤ 1) then
    (if n = 0 then -3 else if w = 0 then (wkO n K F m T S C z 0 0 l.toNat).1 else (wkO n K F m T S C z 0 0 l.toNat).2)
  else -1
theorem x11_forged_l {E : am_E} {d : Nat} {x y n a : Nat} {hi d0 so : Int} {kr : Nat → Nat} {K F : Nat → Int} {xs : List Int}  (hB : E.2 ≤ x) (hy : x + 57 ≤ y) (hya : y ≤ a)  : ∀ (k : Nat) (i m tu : Int) (T S C : Nat → Int) (v5 v6 : Value) (h : Hp), i + k = xs.length / 2 → 0 ≤ i → Scr h x hi → RailAt h (x + 28) n m tu kr T S C → Rng n T S C → KY h y n kr K F → RowAt h a so xs → Ex E (d + 5) mX11_forged 36 [.ref x, .int (i32 d0), .ref a, .ref (x + 28), .int (i32 i), v5, v6] [] h (fun r1 h1 => Qs h h1 x hi (fgd xs (n, m, K, F, T, S, C) i k) r1) := by
  intro k
  induction k with
  | zero =>
    intro i m tu T S C v5 v6 h hk hi0 Z R9 hg9 ky W
    obtain ⟨hr9, hA9, hP9, hG9, hn6⟩ := id R9
    have kk9 := ky.ok (r := x + 28) (by omega)
    obtain ⟨w1, w2, w3, w4, w5⟩ := id W
    have gc := gx_r w5 (2 * i)
    have gw := gx_r w5 (2 * i + 1)
    
    · refine Ex_iload dX11_forged_36 rfl rfl ?_
      refine Ex_aload_n dX11_forged_38 rfl rfl ?_
      refine Ex_inv 2 dX11_forged_39 rfl rfl (Or.inl rfl) rfl rfl rfl rfl w1 rfl rfl rfl (Ex_post (x8_size W) ?_)
      rintro _ _ ⟨rfl, e0⟩
      obtain rfl := Eq.symm e0
      refine Ex_iconst dX11_forged_42 rfl ?_
      refine Ex_idiv dX11_forged_43 rfl (by omega) (by omega) ?_
      refine Ex_icmp_ge (t := 98) dX11_forged_44 rfl rfl (by omega) (fun c44 => ?_) (fun c44 => absurd c44 (by omega))
      refine Ex_bipush dX11_forged_98 rfl (by decide) ?_
      refine Ex_iret dX11_forged_100 rfl rfl ?_
      exact Qs.same Z rfl
  | succ k ih =>
    intro i m tu T S C v5 v6 h hk hi0 Z R9 hg9 ky W
    obtain ⟨hr9, hA9, hP9, hG9, hn6⟩ := id R9
    have kk9 := ky.ok (r := x + 28) (by omega)
    obtain ⟨w1, w2, w3, w4, w5⟩ := id W
    have gc := gx_r w5 (2 * i)
    have gw := gx_r w5 (2 * i + 1)
    have eb : fgd xs (n, m, K, F, T, S, C) i (k + 1) = if (0 ≤ gx xs (2 * i) ∧ gx xs (2 * i) < (n : Int)) ∧ S (gx xs (2 * i)).toNat < 7 ∧ (0 ≤ gx xs (2 * i + 1) ∧ gx xs (2 * i + 1) ≤ 3) then fgd xs (rsM (gx xs (2 * i)).toNat (gx xs (2 * i + 1)) (n, m, K, F, T, S, C)) (i + 1) k else i := rfl
    rw [eb]
    by_cases q : (0 ≤ gx xs (2 * i) ∧ gx xs (2 * i) < (n : Int)) ∧ S (gx xs (2 * i)).toNat < 7 ∧ (0 ≤ gx xs (2 * i + 1) ∧ gx xs (2 * i + 1) ≤ 3)
    · rw [if_pos q]
      obtain ⟨c, hc⟩ := Int.eq_ofNat_of_zero_le q.1.1
      rw [hc] at q ⊢
      have q7 : S c < 7 := q.2.1
      refine Ex_iload dX11_forged_36 rfl rfl ?_
      refine Ex_aload_n dX11_forged_38 rfl rfl ?_
      refine Ex_inv 2 dX11_forged_39 rfl rfl (Or.inl rfl) rfl rfl rfl rfl w1 rfl rfl rfl (Ex_post (x8_size W) ?_)
      rintro _ _ ⟨rfl, e0⟩
      obtain rfl := Eq.symm e0
      refine Ex_iconst dX11_forged_42 rfl ?_
      refine Ex_idiv dX11_forged_43 rfl (by omega) (by omega) ?_
      refine Ex_icmp_ge (t := 98) dX11_forged_44 rfl rfl (by omega) (fun c44 => absurd c44 (by omega)) (fun c44 => ?_)
      refine Ex_aload_n dX11_forged_47 rfl rfl ?_
      refine Ex_iconst dX11_forged_48 rfl ?_
      refine Ex_iload dX11_forged_49 rfl rfl ?_
      refine Ex_imul dX11_forged_51 rfl ?_
      refine Ex_inv 2 dX11_forged_52 rfl rfl (Or.inl rfl) rfl rfl rfl rfl w1 rfl rfl rfl (Ex_post (x8_at W (by omega)) ?_)
      rintro _ _ ⟨rfl, e0⟩
      obtain rfl := Eq.symm e0
      rw [hc]
      refine Ex_istore (L2 := [_, _, _, _, _, _, _]) dX11_forged_55 rfl rfl rfl ?_
      refine Ex_aload_n dX11_forged_57 rfl rfl ?_
      refine Ex_iconst dX11_forged_58 rfl ?_
      refine Ex_iload dX11_forged_59 rfl rfl ?_
      refine Ex_imul dX11_forged_61 rfl ?_
      refine Ex_iconst dX11_forged_62 rfl ?_
      refine Ex_iadd dX11_forged_63 rfl ?_
      refine Ex_inv 2 dX11_forged_64 rfl rfl (Or.inl rfl) rfl rfl rfl rfl w1 rfl rfl rfl (Ex_post (x8_at W (by omega)) ?_)
      rintro _ _ ⟨rfl, e0⟩
      obtain rfl := Eq.symm e0
      refine Ex_istore (L2 := [_, _, _, _, _, _, _]) dX11_forged_67 rfl rfl rfl ?_
      refine Ex_aload_n dX11_forged_69 rfl rfl ?_
      refine Ex_iload dX11_forged_70 rfl rfl ?_
      refine Ex_iload dX11_forged_72 rfl rfl ?_
      refine Ex_inv 2 dX11_forged_74 rfl rfl (Or.inl rfl) rfl rfl rfl rfl hr9 rfl rfl rfl (Ex_post (x7_canTake R9 hg9 (by omega) (by omega)) ?_)
      rintro _ _ ⟨rfl, e0⟩
      obtain rfl := Eq.symm e0
      refine Ex_if_ne (t := 83) dX11_forged_77 rfl rfl (by first | (rw [if_pos q]; omega) | (rw [if_neg q]; omega)) (fun c77 => ?_) (fun c77 => absurd c77 (by first | (rw [if_pos q] at c77; omega) | (rw [if_neg q] at c77; omega)))
      refine Ex_aload_n dX11_forged_83 rfl rfl ?_
      refine Ex_iload dX11_forged_84 rfl rfl ?_
      refine Ex_iload dX11_forged_86 rfl rfl ?_
      refine Ex_inv 2 dX11_forged_88 rfl rfl (Or.inl rfl) rfl rfl rfl rfl hr9 rfl rfl rfl (Ex_post (x7_take R9 hg9 kk9 (by omega) (by omega) q7 q.2.2) ?_)
      rintro _ h8 ⟨rfl, R8, f8⟩
      have Z8 := Z.t0 f8 R8.any
      have g8 := min_r (K := K) (way := gx xs (2 * i + 1)) hg9 (fun i hi => (ky i hi).1.2.2.2) (show c < n by omega) q7
      refine Ex_pop dX11_forged_91 rfl rfl ?_
      refine Ex_iinc (L2 := [_, _, _, _, _, _, _]) dX11_forged_92 rfl rfl rfl ?_
      refine Ex_goto (t := 36) dX11_forged_95 rfl ?_
      refine Ex_post (ih (i + 1) _ _ _ _ _ _ _ _ (by omega) (by omega) Z8 R8 g8 (ky.fr f8 (by omega)) (W.frS f8.s0 (by omega))) ?_
      intro r1 h1 z
      exact Qs.trans f8.s0 z
    · rw [if_neg q]
      refine Ex_iload dX11_forged_36 rfl rfl ?_
      refine Ex_aload_n dX11_forged_38 rfl rfl ?_
      refine Ex_inv 2 dX11_forged_39 rfl rfl (Or.inl rfl) rfl rfl rfl rfl w1 rfl rfl rfl (Ex_post (x8_size W) ?_)
      rintro _ _ ⟨rfl, e0⟩
      obtain rfl := Eq.symm e0
      refine Ex_iconst dX11_forged_42 rfl ?_
      refine Ex_idiv dX11_forged_43 rfl (by omega) (by omega) ?_
      refine Ex_icmp_ge (t := 98) dX11_forged_44 rfl rfl (by omega) (fun c44 => absurd c44 (by omega)) (fun c44 => ?_)
      refine Ex_aload_n dX11_forged_47 rfl rfl ?_
      refine Ex_iconst dX11_forged_48 rfl ?_
      refine Ex_iload dX11_forged_49 rfl rfl ?_
      refine Ex_imul dX11_forged_51 rfl ?_
      refine Ex_inv 2 dX11_forged_52 rfl rfl (Or.inl rfl) rfl rfl rfl rfl w1 rfl rfl rfl (Ex_post (x8_at W (by omega)) ?_)
      rintro _ _ ⟨rfl, e0⟩
      obtain rfl := Eq.symm e0
      refine Ex_istore (L2 := [_, _, _, _, _, _, _]) dX11_forged_55 rfl rfl rfl ?_
      refine Ex_aload_n dX11_forged_57 rfl rfl ?_
      refine Ex_iconst dX11_forged_58 rfl ?_
      refine Ex_iload dX11_forged_59 rfl rfl ?_
      refine Ex_imul dX11_forged_61 rfl ?_
      refine Ex_iconst dX11_forged_62 rfl ?_
      refine Ex_iadd dX11_forged_63 rfl ?_
      refine Ex_inv 2 dX11_forged_64 rfl rfl (Or.inl rfl) rfl rfl rfl rfl w1 rfl rfl rfl (Ex_post (x8_at W (by omega)) ?_)
      rintro _ _ ⟨rfl, e0⟩
      obtain rfl := Eq.symm e0
      refine Ex_istore (L2 := [_, _, _, _, _, _, _]) dX11_forged_67 rfl rfl rfl ?_
      refine Ex_aload_n dX11_forged_69 rfl rfl ?_
      refine Ex_iload dX11_forged_70 rfl rfl ?_
      refine Ex_iload dX11_forged_72 rfl rfl ?_
      refine Ex_inv 2 dX11_forged_74 rfl rfl (Or.inl rfl) rfl rfl rfl rfl hr9 rfl rfl rfl (Ex_post (x7_canTake R9 hg9 (by omega) (by omega)) ?_)
      rintro _ _ ⟨rfl, e0⟩
      obtain rfl := Eq.symm e0
      refine Ex_if_ne (t := 83) dX11_forged_77 rfl rfl (by first | (rw [if_pos q]; omega) | (rw [if_neg q]; omega)) (fun c77 => absurd c77 (by first | (rw [if_pos q] at c77; omega) | (rw [if_neg q] at c77; omega))) (fun c77 => ?_)
      refine Ex_iload dX11_forged_80 rfl rfl ?_
      refine Ex_iret dX11_forged_82 rfl rfl ?_
      exact Qs.same Z rfl
theorem x11_forged {E : am_E} {d : Nat} {h : Hp} {x y n : Nat} {hi m tu : Int} {kr : Nat → Nat} {K F T S C : Nat → Int} {hw ck cf rs : Nat → Int} {rx : Nat → List Int} {sa : Nat → Nat} {a : Int}  (Z : Scr h x hi) (R : RailAt h (x + 10) n m tu kr T S C) (hg : Rng n T S C) (ky : KY h y n kr K F) (hB : E.2 ≤ x) (hy : x + 57 ≤ y) (V : Shv h x y hw ck cf rs rx sa) (ha : (-2147483648 ≤ a ∧ a ≤ 2147483647))  : Ex E (d + 5) mX11_forged 0 [.ref x, .int (i32 a), .retAddr 0, .retAddr 0, .retAddr 0, .retAddr 0, .retAddr 0] [] h (fun r1 h1 => Qs h h1 x hi (an_forged hw rs rx (n, m, K, F, T, S, C) a) r1) := by
  obtain ⟨⟨bs, z0⟩, z1, ⟨f2, z2⟩, ⟨f3, z3⟩, ⟨f4, z4⟩, ⟨f5, z5⟩, zr0, zr1, zr2, ⟨k5, t5, s5, c5, z55⟩, ⟨k6, t6, s6, c6, z56⟩⟩ := id Z
  obtain ⟨hr, hA, hP, hG, hn6⟩ := id R
  have kk := ky.ok (r := x + 10) (by omega)
  by_cases q : (0 ≤ a ∧ a ≤ 7) ∧ hw a.toNat = 2
  · obtain ⟨W, hya⟩ := V.row q
    obtain ⟨w1, w2, w3, w4, w5⟩ := id W
    by_cases q2 : (rx a.toNat).length % 2 = 0
    · have ea : an_forged hw rs rx (n, m, K, F, T, S, C) a = fgd (rx a.toNat) (n, m, K, F, T, S, C) 0 ((rx a.toNat).length / 2) := by unfold an_forged; rw [if_pos q]; exact if_pos q2
      rw [ea]
      refine Ex_aload_n dX11_forged_0 rfl rfl ?_
      refine Ex_iload_n dX11_forged_1 rfl rfl ?_
      refine Ex_inv 2 dX11_forged_2 rfl rfl (Or.inl rfl) rfl rfl rfl rfl (by first | exact z0 | exact w1) rfl rfl rfl (Ex_post (x11_rowOn Z V (by omega)) ?_)
      rintro _ _ ⟨rfl, e0⟩
      obtain rfl := Eq.symm e0
      rw [row_some q]
      refine Ex_astore_n (L2 := [_, _, _, _, _, _, _]) dX11_forged_5 rfl rfl rfl ?_
      refine Ex_aload_n dX11_forged_6 rfl rfl ?_
      refine Ex_ifnonnull (t := 16) dX11_forged_7 rfl rfl ?_
      refine Ex_aload_n dX11_forged_16 rfl rfl ?_
      refine Ex_inv 2 dX11_forged_17 rfl rfl (Or.inl rfl) rfl rfl rfl rfl w1 rfl rfl rfl (Ex_post (x8_size W) ?_)
      rintro _ _ ⟨rfl, e0⟩
      obtain rfl := Eq.symm e0
      refine Ex_iconst dX11_forged_20 rfl ?_
      refine Ex_irem dX11_forged_21 rfl (by omega) (by omega) ?_
      refine Ex_if_eq (t := 28) dX11_forged_22 rfl rfl (by omega) (fun c22 => ?_) (fun c22 => absurd c22 (by omega))
      refine Ex_aload_n dX11_forged_28 rfl rfl ?_
      refine Ex_inv 2 dX11_forged_29 rfl rfl (Or.inl rfl) rfl rfl rfl rfl z0 rfl rfl rfl (Ex_post (x11_fromNow Z R hg ky hB hy) ?_)
      rintro _ h9 ⟨rfl, R9, f9⟩
      refine Ex_astore_n (L2 := [_, _, _, _, _, _, _]) dX11_forged_32 rfl rfl rfl ?_
      refine Ex_iconst dX11_forged_33 rfl ?_
      refine Ex_istore (L2 := [_, _, _, _, _, _, _]) dX11_forged_34 rfl rfl rfl ?_
      refine Ex_post (x11_forged_l hB hy hya ((rx a.toNat).length / 2) 0 m 0 T S C _ _ h9 (by omega) (by omega) (Z.t0 f9 R9.any) R9 hg (ky.fr f9 (by omega)) (W.frS f9.s0 (by omega))) ?_
      intro r1 h1 z
      exact Qs.trans f9.s0 z
    · refine Ex_aload_n dX11_forged_0 rfl rfl ?_
      refine Ex_iload_n dX11_forged_1 rfl rfl ?_
      refine Ex_inv 2 dX11_forged_2 rfl rfl (Or.inl rfl) rfl rfl rfl rfl (by first | exact z0 | exact w1) rfl rfl rfl (Ex_post (x11_rowOn Z V (by omega)) ?_)
      rintro _ _ ⟨rfl, e0⟩
      obtain rfl := Eq.symm e0
      rw [row_some q]
      refine Ex_astore_n (L2 := [_, _, _, _, _, _, _]) dX11_forged_5 rfl rfl rfl ?_
      refine Ex_aload_n dX11_forged_6 rfl rfl ?_
      refine Ex_ifnonnull (t := 16) dX11_forged_7 rfl rfl ?_
      refine Ex_aload_n dX11_forged_16 rfl rfl ?_
      refine Ex_inv 2 dX11_forged_17 rfl rfl (Or.inl rfl) rfl rfl rfl rfl w1 rfl rfl rfl (Ex_post (x8_size W) ?_)
      rintro _ _ ⟨rfl, e0⟩
      obtain rfl := Eq.symm e0
      refine Ex_iconst dX11_forged_20 rfl ?_
      refine Ex_irem dX11_forged_21 rfl (by omega) (by omega) ?_
      refine Ex_if_eq (t := 28) dX11_forged_22 rfl rfl (by omega) (fun c22 => absurd c22 (by omega)) (fun c22 => ?_)
      refine Ex_bipush dX11_forged_25 rfl (by decide) ?_
      refine Ex_iret dX11_forged_27 rfl rfl ?_
      exact Qs.same Z (by unfold an_forged; rw [if_pos q, if_neg q2])
  · refine Ex_aload_n dX11_forged_0 rfl rfl ?_
    refine Ex_iload_n dX11_forged_1 rfl rfl ?_
    refine Ex_inv 2 dX11_forged_2 rfl rfl (Or.inl rfl) rfl rfl rfl rfl z0 rfl rfl rfl (Ex_post (x11_rowOn Z V (by omega)) ?_)
    rintro _ _ ⟨rfl, e0⟩
    obtain rfl := Eq.symm e0
    rw [row_none q]
    refine Ex_astore_nN (L2 := [_, _, _, _, _, _, _]) dX11_forged_5 rfl rfl rfl ?_
    refine Ex_aload_nN dX11_forged_6 rfl rfl ?_
    refine Ex_ifnonnullN (t := 16) dX11_forged_7 rfl rfl ?_
    refine Ex_aload_n dX11_forged_10 rfl rfl ?_
    refine Ex_iload_n dX11_forged_11 rfl rfl ?_
    refine Ex_inv 2 dX11_forged_12 rfl rfl (Or.inl rfl) rfl rfl rfl rfl z0 rfl rfl rfl (Ex_post (x11_whyNot Z V (by omega)) ?_)
    rintro _ _ ⟨rfl, e0⟩
    obtain rfl := Eq.symm e0
    refine Ex_iret dX11_forged_15 rfl rfl ?_
    exact Qs.same Z (by unfold an_forged; rw [if_neg q])
theorem x11_judge_l {E : am_E} {d : Nat} {x y n a c : Nat} {hi d0 so : Int} {kr : Nat → Nat} {K F : Nat → Int} {xs : List Int}  (hB : E.2 ≤ x) (hy : x + 57 ≤ y) (hya : y ≤ a) (hcn : c < n)  : ∀ (k : Nat) (i : Int) (X : TS) (h : Hp), i + k = xs.length → 0 ≤ i → Scr h x hi → RailX h (x + 28) n kr X → RngX n X → KY h y n kr K F → X.2.1 ≤ n → RowAt h a so xs → Ex E (d + 6) mX11_judge 45 [.ref x, .int (i32 d0), .int (i32 (c : Int)), .ref a, .ref (x + 28), .int (i32 i)] [] h (fun r1 h1 => Qs h h1 x hi (jdg K F n c so xs X i k) r1) := by
  intro k
  induction k with
  | zero =>
    intro i X h hk hi0 Z R9 hgX ky htu W
    obtain ⟨hr9, hA9, hP9, hG9, hn6⟩ := id R9
    have kk9 := ky.ok (r := x + 28) (by omega)
    have hF9 : ∀ i, i < n → 0 ≤ F i ∧ F i ≤ 9 := fun i hi => (ky i hi).1.2.2.2
    have htw := tw_v (K := K) (F := F) (n := n) (X := X)
    obtain ⟨w1, w2, w3, w4, w5⟩ := id W
    have gc := gx_r w5 i
    have hgc := hgX c hcn
    
    · refine Ex_iload dX11_judge_45 rfl rfl ?_
      refine Ex_aload_n dX11_judge_47 rfl rfl ?_
      refine Ex_inv 2 dX11_judge_48 rfl rfl (Or.inl rfl) rfl rfl rfl rfl w1 rfl rfl rfl (Ex_post (x8_size W) ?_)
      rintro _ _ ⟨rfl, e0⟩
      obtain rfl := Eq.symm e0
      refine Ex_icmp_ge (t := 101) dX11_judge_51 rfl rfl (by omega) (fun c51 => ?_) (fun c51 => absurd c51 (by omega))
      refine Ex_bipush dX11_judge_101 rfl (by decide) ?_
      refine Ex_iret dX11_judge_103 rfl rfl ?_
      exact Qs.same Z rfl
  | succ k ih =>
    intro i X h hk hi0 Z R9 hgX ky htu W
    obtain ⟨hr9, hA9, hP9, hG9, hn6⟩ := id R9
    have kk9 := ky.ok (r := x + 28) (by omega)
    have hF9 : ∀ i, i < n → 0 ≤ F i ∧ F i ≤ 9 := fun i hi => (ky i hi).1.2.2.2
    have htw := tw_v (K := K) (F := F) (n := n) (X := X)
    obtain ⟨w1, w2, w3, w4, w5⟩ := id W
    have gc := gx_r w5 i
    have hgc := hgX c hcn
    have hls : -2147483648 ≤ lst so ∧ lst so ≤ 0 := by unfold lst; split; omega; split <;> omega
    have eb : jdg K F n c so xs X i (k + 1) = if gx xs i ≠ lst so ∧ gx xs i ≠ X.2.2.1 c then i else jdg K F n c so xs (tst K F n X) (i + 1) k := rfl
    rw [eb]
    by_cases q1 : gx xs i = lst so
    rotate_left
    by_cases q2 : gx xs i = X.2.2.1 c
    rotate_left
    · rw [if_pos ⟨q1, q2⟩]
      refine Ex_iload dX11_judge_45 rfl rfl ?_
      refine Ex_aload_n dX11_judge_47 rfl rfl ?_
      refine Ex_inv 2 dX11_judge_48 rfl rfl (Or.inl rfl) rfl rfl rfl rfl w1 rfl rfl rfl (Ex_post (x8_size W) ?_)
      rintro _ _ ⟨rfl, e0⟩
      obtain rfl := Eq.symm e0
      refine Ex_icmp_ge (t := 101) dX11_judge_51 rfl rfl (by omega) (fun c51 => absurd c51 (by omega)) (fun c51 => ?_)
      refine Ex_aload_n dX11_judge_54 rfl rfl ?_
      refine Ex_iload dX11_judge_55 rfl rfl ?_
      refine Ex_inv 2 dX11_judge_57 rfl rfl (Or.inl rfl) rfl rfl rfl rfl w1 rfl rfl rfl (Ex_post (x8_at W (by omega)) ?_)
      rintro _ _ ⟨rfl, e0⟩
      obtain rfl := Eq.symm e0
      refine Ex_aload_n dX11_judge_60 rfl rfl ?_
      refine Ex_inv 2 dX11_judge_61 rfl rfl (Or.inl rfl) rfl rfl rfl rfl w1 rfl rfl rfl (Ex_post (x8_least W) ?_)
      rintro _ _ ⟨rfl, e0⟩
      obtain rfl := Eq.symm e0
      refine Ex_icmp_eq (t := 89) dX11_judge_64 rfl rfl (by omega) (fun c64 => absurd c64 (by omega)) (fun c64 => ?_)
      refine Ex_aload_n dX11_judge_67 rfl rfl ?_
      refine Ex_iload dX11_judge_68 rfl rfl ?_
      refine Ex_inv 2 dX11_judge_70 rfl rfl (Or.inl rfl) rfl rfl rfl rfl w1 rfl rfl rfl (Ex_post (x8_at W (by omega)) ?_)
      rintro _ _ ⟨rfl, e0⟩
      obtain rfl := Eq.symm e0
      refine Ex_aload dX11_judge_73 rfl rfl ?_
      refine Ex_getf dX11_judge_75 rfl (by first | exact hr9 | exact w1 | exact hA9 | exact hP9 _ (by omega)) rfl rfl rfl ?_
      refine Ex_iload_n dX11_judge_78 rfl rfl ?_
      refine Ex_aald dX11_judge_79 rfl (by first | exact hr9 | exact w1 | exact hA9 | exact hP9 _ (by omega)) (by omega) (by omega) (rarr_get (by omega)) ?_
      refine Ex_getf dX11_judge_80 rfl (by first | exact hr9 | exact w1 | exact hA9 | exact hP9 _ (by omega)) rfl rfl rfl ?_
      refine Ex_icmp_eq (t := 89) dX11_judge_83 rfl rfl (by omega) (fun c83 => absurd c83 (by omega)) (fun c83 => ?_)
      refine Ex_iload dX11_judge_86 rfl rfl ?_
      refine Ex_iret dX11_judge_88 rfl rfl ?_
      exact Qs.same Z rfl
    · rw [if_neg (fun z => z.1 q1)]
      refine Ex_iload dX11_judge_45 rfl rfl ?_
      refine Ex_aload_n dX11_judge_47 rfl rfl ?_
      refine Ex_inv 2 dX11_judge_48 rfl rfl (Or.inl rfl) rfl rfl rfl rfl w1 rfl rfl rfl (Ex_post (x8_size W) ?_)
      rintro _ _ ⟨rfl, e0⟩
      obtain rfl := Eq.symm e0
      refine Ex_icmp_ge (t := 101) dX11_judge_51 rfl rfl (by omega) (fun c51 => absurd c51 (by omega)) (fun c51 => ?_)
      refine Ex_aload_n dX11_judge_54 rfl rfl ?_
      refine Ex_iload dX11_judge_55 rfl rfl ?_
      refine Ex_inv 2 dX11_judge_57 rfl rfl (Or.inl rfl) rfl rfl rfl rfl w1 rfl rfl rfl (Ex_post (x8_at W (by omega)) ?_)
      rintro _ _ ⟨rfl, e0⟩
      obtain rfl := Eq.symm e0
      refine Ex_aload_n dX11_judge_60 rfl rfl ?_
      refine Ex_inv 2 dX11_judge_61 rfl rfl (Or.inl rfl) rfl rfl rfl rfl w1 rfl rfl rfl (Ex_post (x8_least W) ?_)
      rintro _ _ ⟨rfl, e0⟩
      obtain rfl := Eq.symm e0
      refine Ex_icmp_eq (t := 89) dX11_judge_64 rfl rfl (by omega) (fun c64 => ?_) (fun c64 => absurd c64 (by omega))
      refine Ex_aload dX11_judge_89 rfl rfl ?_
      refine Ex_inv 2 dX11_judge_91 rfl rfl (Or.inl rfl) rfl rfl rfl rfl hr9 rfl rfl rfl (Ex_post (x7_takeTurn R9 hgX kk9 (by omega) htu) ?_)
      rintro _ h8 ⟨rfl, R8, f8⟩
      have Z8 := Z.t0 f8 (RailAt.any R8)
      have g8 := tst_r (K := K) (F := F) hgX hF9
      refine Ex_pop dX11_judge_94 rfl rfl ?_
      refine Ex_iinc (L2 := [_, _, _, _, _, _]) dX11_judge_95 rfl rfl rfl ?_
      refine Ex_goto (t := 45) dX11_judge_98 rfl ?_
      refine Ex_post (ih (i + 1) _ _ (by omega) (by omega) Z8 R8 g8 (ky.fr f8 (by omega)) (tst_tu htu) (W.frS f8.s0 (by omega))) ?_
      intro r1 h1 z
      exact Qs.trans f8.s0 z
    · rw [if_neg (fun z => z.2 q2)]
      refine Ex_iload dX11_judge_45 rfl rfl ?_
      refine Ex_aload_n dX11_judge_47 rfl rfl ?_
      refine Ex_inv 2 dX11_judge_48 rfl rfl (Or.inl rfl) rfl rfl rfl rfl w1 rfl rfl rfl (Ex_post (x8_size W) ?_)
      rintro _ _ ⟨rfl, e0⟩
      obtain rfl := Eq.symm e0
      refine Ex_icmp_ge (t := 101) dX11_judge_51 rfl rfl (by omega) (fun c51 => absurd c51 (by omega)) (fun c51 => ?_)
      refine Ex_aload_n dX11_judge_54 rfl rfl ?_
      refine Ex_iload dX11_judge_55 rfl rfl ?_
      refine Ex_inv 2 dX11_judge_57 rfl rfl (Or.inl rfl) rfl rfl rfl rfl w1 rfl rfl rfl (Ex_post (x8_at W (by omega)) ?_)
      rintro _ _ ⟨rfl, e0⟩
      obtain rfl := Eq.symm e0
      refine Ex_aload_n dX11_judge_60 rfl rfl ?_
      refine Ex_inv 2 dX11_judge_61 rfl rfl (Or.inl rfl) rfl rfl rfl rfl w1 rfl rfl rfl (Ex_post (x8_least W) ?_)
      rintro _ _ ⟨rfl, e0⟩
      obtain rfl := Eq.symm e0
      refine Ex_icmp_eq (t := 89) dX11_judge_64 rfl rfl (by omega) (fun c64 => absurd c64 (by omega)) (fun c64 => ?_)
      refine Ex_aload_n dX11_judge_67 rfl rfl ?_
      refine Ex_iload dX11_judge_68 rfl rfl ?_
      refine Ex_inv 2 dX11_judge_70 rfl rfl (Or.inl rfl) rfl rfl rfl rfl w1 rfl rfl rfl (Ex_post (x8_at W (by omega)) ?_)
      rintro _ _ ⟨rfl, e0⟩
      obtain rfl := Eq.symm e0
      refine Ex_aload dX11_judge_73 rfl rfl ?_
      refine Ex_getf dX11_judge_75 rfl (by first | exact hr9 | exact w1 | exact hA9 | exact hP9 _ (by omega)) rfl rfl rfl ?_
      refine Ex_iload_n dX11_judge_78 rfl rfl ?_
      refine Ex_aald dX11_judge_79 rfl (by first | exact hr9 | exact w1 | exact hA9 | exact hP9 _ (by omega)) (by omega) (by omega) (rarr_get (by omega)) ?_
      refine Ex_getf dX11_judge_80 rfl (by first | exact hr9 | exact w1 | exact hA9 | exact hP9 _ (by omega)) rfl rfl rfl ?_
      refine Ex_icmp_eq (t := 89) dX11_judge_83 rfl rfl (by omega) (fun c83 => ?_) (fun c83 => absurd c83 (by omega))
      refine Ex_aload dX11_judge_89 rfl rfl ?_
      refine Ex_inv 2 dX11_judge_91 rfl rfl (Or.inl rfl) rfl rfl rfl rfl hr9 rfl rfl rfl (Ex_post (x7_takeTurn R9 hgX kk9 (by omega) htu) ?_)
      rintro _ h8 ⟨rfl, R8, f8⟩
      have Z8 := Z.t0 f8 (RailAt.any R8)
      have g8 := tst_r (K := K) (F := F) hgX hF9
      refine Ex_pop dX11_judge_94 rfl rfl ?_
      refine Ex_iinc (L2 := [_, _, _, _, _, _]) dX11_judge_95 rfl rfl rfl ?_
      refine Ex_goto (t := 45) dX11_judge_98 rfl ?_
      refine Ex_post (ih (i + 1) _ _ (by omega) (by omega) Z8 R8 g8 (ky.fr f8 (by omega)) (tst_tu htu) (W.frS f8.s0 (by omega))) ?_
      intro r1 h1 z
      exact Qs.trans f8.s0 z
theorem x11_judge {E : am_E} {d : Nat} {h : Hp} {x y n : Nat} {hi m tu : Int} {kr : Nat → Nat} {K F T S C : Nat → Int} {hw ck cf rs : Nat → Int} {rx : Nat → List Int} {sa : Nat → Nat} {a c : Int}  (Z : Scr h x hi) (R : RailAt h (x + 10) n m tu kr T S C) (hg : Rng n T S C) (ky : KY h y n kr K F) (hB : E.2 ≤ x) (hy : x + 57 ≤ y) (V : Shv h x y hw ck cf rs rx sa) (ha : (-2147483648 ≤ a ∧ a ≤ 2147483647)) (hc : (-2147483648 ≤ c ∧ c ≤ 2147483647))  : Ex E (d + 6) mX11_judge 0 [.ref x, .int (i32 a), .int (i32 c), .retAddr 0, .retAddr 0, .retAddr 0] [] h (fun r1 h1 => Qs h h1 x hi (an_judge hw rs rx n m K F T S C a c) r1) := by
  obtain ⟨⟨bs, z0⟩, z1, ⟨f2, z2⟩, ⟨f3, z3⟩, ⟨f4, z4⟩, ⟨f5, z5⟩, zr0, zr1, zr2, ⟨k5, t5, s5, c5, z55⟩, ⟨k6, t6, s6, c6, z56⟩⟩ := id Z
  obtain ⟨hr, hA, hP, hG, hn6⟩ := id R
  have kk := ky.ok (r := x + 10) (by omega)
  by_cases q0 : (0 ≤ a ∧ a ≤ 7) ∧ (0 ≤ c ∧ c < (n : Int))
  · by_cases q2 : hw a.toNat = 2
    · obtain ⟨W, hya⟩ := V.row ⟨q0.1, q2⟩
      obtain ⟨w1, w2, w3, w4, w5⟩ := id W
      obtain ⟨c, rfl⟩ := Int.eq_ofNat_of_zero_le q0.2.1
      have hcn : c < n := by omega
      have ea : an_judge hw rs rx n m K F T S C a (c : Int) = jdg K F n c (rs a.toNat) (rx a.toNat) (m, 0, T, S, C) 0 (rx a.toNat).length := by unfold an_judge; rw [if_pos q0]; exact if_pos q2
      rw [ea]
      refine Ex_iload_n dX11_judge_0 rfl rfl ?_
      refine Ex_stat 0 dX11_judge_1 rfl rfl (Or.inl rfl) rfl rfl rfl rfl rfl rfl (Ex_post (x11_isShelf (by omega)) ?_)
      rintro _ _ ⟨rfl, e0⟩
      obtain rfl := Eq.symm e0
      refine Ex_if_eq (t := 18) dX11_judge_4 rfl rfl (by omega) (fun c4 => absurd c4 (by omega)) (fun c4 => ?_)
      refine Ex_aload_n dX11_judge_7 rfl rfl ?_
      refine Ex_getf dX11_judge_8 rfl (by first | exact z0 | exact hr | exact w1) rfl rfl rfl ?_
      refine Ex_iload_n dX11_judge_11 rfl rfl ?_
      refine Ex_inv 2 dX11_judge_12 rfl rfl (Or.inl rfl) rfl rfl rfl rfl hr rfl rfl rfl (Ex_post (x7_has R (by omega)) ?_)
      rintro _ _ ⟨rfl, e0⟩
      obtain rfl := Eq.symm e0
      refine Ex_if_ne (t := 20) dX11_judge_15 rfl rfl (by omega) (fun c15 => ?_) (fun c15 => absurd c15 (by omega))
      refine Ex_aload_n dX11_judge_20 rfl rfl ?_
      refine Ex_iload_n dX11_judge_21 rfl rfl ?_
      refine Ex_inv 2 dX11_judge_22 rfl rfl (Or.inl rfl) rfl rfl rfl rfl z0 rfl rfl rfl (Ex_post (x11_rowOn Z V (by omega)) ?_)
      rintro _ _ ⟨rfl, e0⟩
      obtain rfl := Eq.symm e0
      rw [row_some ⟨q0.1, q2⟩]
      refine Ex_astore_n (L2 := [_, _, _, _, _, _]) dX11_judge_25 rfl rfl rfl ?_
      refine Ex_aload_n dX11_judge_26 rfl rfl ?_
      refine Ex_ifnonnull (t := 36) dX11_judge_27 rfl rfl ?_
      refine Ex_aload_n dX11_judge_36 rfl rfl ?_
      refine Ex_inv 2 dX11_judge_37 rfl rfl (Or.inl rfl) rfl rfl rfl rfl z0 rfl rfl rfl (Ex_post (x11_fromNow Z R hg ky hB hy) ?_)
      rintro _ h9 ⟨rfl, R9, f9⟩
      refine Ex_astore (L2 := [_, _, _, _, _, _]) dX11_judge_40 rfl rfl rfl ?_
      refine Ex_iconst dX11_judge_42 rfl ?_
      refine Ex_istore (L2 := [_, _, _, _, _, _]) dX11_judge_43 rfl rfl rfl ?_
      refine Ex_post (x11_judge_l hB hy hya hcn (rx a.toNat).length 0 (m, 0, T, S, C) h9 (by omega) (by omega) (Z.t0 f9 R9.any) R9 hg (ky.fr f9 (by omega)) (Nat.zero_le _) (W.frS f9.s0 (by omega))) ?_
      intro r1 h1 z
      exact Qs.trans f9.s0 z
    · refine Ex_iload_n dX11_judge_0 rfl rfl ?_
      refine Ex_stat 0 dX11_judge_1 rfl rfl (Or.inl rfl) rfl rfl rfl rfl rfl rfl (Ex_post (x11_isShelf (by omega)) ?_)
      rintro _ _ ⟨rfl, e0⟩
      obtain rfl := Eq.symm e0
      refine Ex_if_eq (t := 18) dX11_judge_4 rfl rfl (by omega) (fun c4 => absurd c4 (by omega)) (fun c4 => ?_)
      refine Ex_aload_n dX11_judge_7 rfl rfl ?_
      refine Ex_getf dX11_judge_8 rfl (by first | exact z0 | exact hr) rfl rfl rfl ?_
      refine Ex_iload_n dX11_judge_11 rfl rfl ?_
      refine Ex_inv 2 dX11_judge_12 rfl rfl (Or.inl rfl) rfl rfl rfl rfl hr rfl rfl rfl (Ex_post (x7_has R (by omega)) ?_)
      rintro _ _ ⟨rfl, e0⟩
      obtain rfl := Eq.symm e0
      refine Ex_if_ne (t := 20) dX11_judge_15 rfl rfl (by omega) (fun c15 => ?_) (fun c15 => absurd c15 (by omega))
      refine Ex_aload_n dX11_judge_20 rfl rfl ?_
      refine Ex_iload_n dX11_judge_21 rfl rfl ?_
      refine Ex_inv 2 dX11_judge_22 rfl rfl (Or.inl rfl) rfl rfl rfl rfl z0 rfl rfl rfl (Ex_post (x11_rowOn Z V (by omega)) ?_)
      rintro _ _ ⟨rfl, e0⟩
      obtain rfl := Eq.symm e0
      rw [row_none (fun z => q2 z.2)]
      refine Ex_astore_nN (L2 := [_, _, _, _, _, _]) dX11_judge_25 rfl rfl rfl ?_
      refine Ex_aload_nN dX11_judge_26 rfl rfl ?_
      refine Ex_ifnonnullN (t := 36) dX11_judge_27 rfl rfl ?_
      refine Ex_aload_n dX11_judge_30 rfl rfl ?_
      refine Ex_iload_n dX11_judge_31 rfl rfl ?_
      refine Ex_inv 2 dX11_judge_32 rfl rfl (Or.inl rfl) rfl rfl rfl rfl (by first | exact z0 | exact hr) rfl rfl rfl (Ex_post (x11_whyNot Z V (by omega)) ?_)
      rintro _ _ ⟨rfl, e0⟩
      obtain rfl := Eq.symm e0
      refine Ex_iret dX11_judge_35 rfl rfl ?_
      exact Qs.same Z (by unfold an_judge; rw [if_pos q0, if_neg q2])
  · refine Ex_iload_n dX11_judge_0 rfl rfl ?_
    refine Ex_stat 0 dX11_judge_1 rfl rfl (Or.inl rfl) rfl rfl rfl rfl rfl rfl (Ex_post (x11_isShelf (by omega)) ?_)
    rintro _ _ ⟨rfl, e0⟩
    obtain rfl := Eq.symm e0
    refine Ex_if_eq (t := 18) dX11_judge_4 rfl rfl (by omega) (fun c4 => ?_) (fun c4 => ?_)
    · refine Ex_iconst dX11_judge_18 rfl ?_
      refine Ex_iret dX11_judge_19 rfl rfl ?_
      exact Qs.same Z (by unfold an_judge; rw [if_neg q0])
    · refine Ex_aload_n dX11_judge_7 rfl rfl ?_
      refine Ex_getf dX11_judge_8 rfl (by first | exact z0 | exact hr) rfl rfl rfl ?_
      refine Ex_iload_n dX11_judge_11 rfl rfl ?_
      refine Ex_inv 2 dX11_judge_12 rfl rfl (Or.inl rfl) rfl rfl rfl rfl hr rfl rfl rfl (Ex_post (x7_has R (by omega)) ?_)
      rintro _ _ ⟨rfl, e0⟩
      obtain rfl := Eq.symm e0
      refine Ex_if_ne (t := 20) dX11_judge_15 rfl rfl (by omega) (fun c15 => ?_) (fun c15 => ?_)
      · exfalso; omega
      · refine Ex_iconst dX11_judge_18 rfl ?_
        refine Ex_iret dX11_judge_19 rfl rfl ?_
        exact Qs.same Z (by unfold an_judge; rw [if_neg q0])
theorem x11_seedBehind {E : am_E} {d : Nat} {h : Hp} {z : Int32}   : Ex E d mX11_seedBehind 0 [.int z] [] h (fun r1 h1 => r1 = some (.int (sdn z)) ∧ h1 = h) := by
  refine Ex_iload_n dX11_seedBehind_0 rfl rfl ?_
  refine Ex_ldc_w (z := 1103515245) dX11_seedBehind_1 rfl rfl ?_
  refine Ex_imulW dX11_seedBehind_4 rfl ?_
  refine Ex_sipush dX11_seedBehind_5 rfl (by decide) ?_
  refine Ex_iaddW dX11_seedBehind_8 rfl ?_
  refine Ex_iret dX11_seedBehind_9 rfl rfl ?_
  exact ⟨rfl, rfl⟩
theorem x11_below {E : am_E} {d : Nat} {h : Hp} {n : Int} {z : Int32}  (hn : 0 < n ∧ n ≤ 2147483647)  : Ex E d mX11_below 0 [.int (i32 n), .int z] [] h (fun r1 h1 => r1 = some (.int (i32 (dr n z))) ∧ h1 = h) := by
  have hm := msk_r z
  have hd : 0 ≤ msk z / 65536 ∧ msk z / 65536 ≤ 2147483647 := ⟨Int.ediv_nonneg hm.1 (by omega), Int.le_trans (Int.ediv_le_self _ hm.1) hm.2⟩
  refine Ex_iload_n dX11_below_0 rfl rfl ?_
  refine Ex_if_gt (t := 8) dX11_below_1 rfl rfl (by omega) (fun c1 => ?_) (fun c1 => absurd c1 (by omega))
  refine Ex_iload_n dX11_below_8 rfl rfl ?_
  refine Ex_ldc_w (z := 2147483647) dX11_below_9 rfl rfl ?_
  refine Ex_iandW dX11_below_12 rfl ?_
  rw [msk_ok]
  refine Ex_ldc_w (z := 65536) dX11_below_13 rfl rfl ?_
  refine Ex_idiv dX11_below_16 rfl (by omega) (by omega) ?_
  refine Ex_iload_n dX11_below_17 rfl rfl ?_
  refine Ex_irem dX11_below_18 rfl (by omega) (by omega) ?_
  refine Ex_iret dX11_below_19 rfl rfl ?_
  exact ⟨rfl, rfl⟩
theorem x11_weeks_i {E : am_E} {d x y n : Nat} {hi l w st wk m0 tu0 : Int} {z0 : Int32} {kr : Nat → Nat} {K F T0 S0 C0 : Nat → Int} {Q : Option Value → Hp → Prop} (hB : E.2 ≤ x) (hy : x + 57 ≤ y) (hn0 : 0 < n) : ∀ (k : Nat) (i m tu sw : Int) (sd : Int32) (T S C : Nat → Int) (v10 v11 : Value) (h : Hp), i + k = 10 → 0 ≤ i → Scr h x hi → RailAt h (x + 10) n m0 tu0 kr T0 S0 C0 → RailAt h (x + 28) n m tu kr T S C → Rng n T S C → KY h y n kr K F → (∀ (tu2 : Int) (va vb : Value) (h2 : Hp), Scr h2 x hi → RailAt h2 (x + 10) n m0 tu0 kr T0 S0 C0 → RailAt h2 (x + 28) n (wkI n K F m T S C sd sw k).1.2.1 tu2 kr (wkI n K F m T S C sd sw k).1.2.2.2.2.1 (wkI n K F m T S C sd sw k).1.2.2.2.2.2.1 (wkI n K F m T S C sd sw k).1.2.2.2.2.2.2 → Rng n (wkI n K F m T S C sd sw k).1.2.2.2.2.1 (wkI n K F m T S C sd sw k).1.2.2.2.2.2.1 (wkI n K F m T S C sd sw k).1.2.2.2.2.2.2 → KY h2 y n kr K F → FrS h h2 x → Ex E (d + 5) mX11_weeks 137 [.ref x, .int (i32 l), .int z0, .int (i32 w), .int (wkI n K F m T S C sd sw k).2.1, .int (i32 st), .int (i32 (wkI n K F m T S C sd sw k).2.2), .int (i32 wk), .ref (x + 28), .int (i32 10), va, vb] [] h2 Q) → Ex E (d + 5) mX11_weeks 61 [.ref x, .int (i32 l), .int z0, .int (i32 w), .int sd, .int (i32 st), .int (i32 sw), .int (i32 wk), .ref (x + 28), .int (i32 i), v10, v11] [] h Q := by
  intro k
  induction k with
  | zero =>
    intro i m tu sw sd T S C v10 v11 h hk hi0 Z R R9 hg9 ky kont
    obtain rfl : i = 10 := by omega
    refine Ex_iload dX11_weeks_61 rfl rfl ?_
    refine Ex_bipush dX11_weeks_63 rfl (by decide) ?_
    refine Ex_icmp_ge (t := 137) dX11_weeks_65 rfl rfl (by omega) (fun c65 => ?_) (fun c65 => absurd c65 (by omega))
    simp only [wkI] at kont
    exact kont tu v10 v11 h Z R R9 hg9 ky (FrS.rf _ _)
  | succ k ih =>
    intro i m tu sw sd T S C v10 v11 h hk hi0 Z R R9 hg9 ky kont
    obtain ⟨⟨bs, z0'⟩, -⟩ := id Z
    obtain ⟨hr, hA, hP, hG, hn6⟩ := id R
    obtain ⟨hr9, hA9, hP9, hG9, -⟩ := id R9
    have kk9 := ky.ok (r := x + 28) (by omega)
    obtain ⟨s1, hs1⟩ : ∃ s1, s1 = sdn sd := ⟨_, rfl⟩
    obtain ⟨s2, hs2⟩ : ∃ s2, s2 = sdn s1 := ⟨_, rfl⟩
    obtain ⟨c, hc⟩ := Int.eq_ofNat_of_zero_le (dr_r (z := s1) (show 0 < (n : Int) by omega)).1
    have hcr := dr_r (z := s1) (show 0 < (n : Int) by omega)
    have hcn : c < n := by omega
    obtain ⟨wy, hwy⟩ : ∃ wy, wy = dr 4 s2 := ⟨_, rfl⟩
    have hwr := dr_r (z := s2) (show 0 < (4 : Int) by omega)
    rw [← hwy] at hwr
    have eb : wkI n K F m T S C sd sw (k + 1) = if S c < 7 then wkI n K F (m + 1) (minT n c wy K F T S C) (mnS c wy K F T S) (minC n c wy K F T S C) s2 (if mnW c wy K F T S = 0 then sw else sw + 1) k else wkI n K F m T S C s2 sw k := by
      simp only [wkI]
      rw [← hs1, ← hs2, hc, ← hwy, Int.toNat_natCast]
    rw [eb] at kont
    have hmw : mnW c wy K F T S = 0 ∨ mnW c wy K F T S = 1 := by unfold mnW; split <;> simp
    by_cases q : S c < 7
    rotate_left
    · refine Ex_iload dX11_weeks_61 rfl rfl ?_
      refine Ex_bipush dX11_weeks_63 rfl (by decide) ?_
      refine Ex_icmp_ge (t := 137) dX11_weeks_65 rfl rfl (by omega) (fun c65 => absurd c65 (by omega)) (fun c65 => ?_)
      refine Ex_iload dX11_weeks_68 rfl rfl ?_
      refine Ex_stat 0 dX11_weeks_70 rfl rfl (Or.inl rfl) rfl rfl rfl rfl rfl rfl (Ex_post (x11_seedBehind) ?_)
      rintro _ _ ⟨rfl, e0⟩
      obtain rfl := Eq.symm e0
      rw [← hs1]
      refine Ex_istore (L2 := [_, _, _, _, _, _, _, _, _, _, _, _]) dX11_weeks_73 rfl rfl rfl ?_
      refine Ex_aload_n dX11_weeks_75 rfl rfl ?_
      refine Ex_getf dX11_weeks_76 rfl (by first | exact z0' | exact hr) rfl rfl rfl ?_
      refine Ex_getf dX11_weeks_79 rfl (by first | exact z0' | exact hr) rfl rfl rfl ?_
      refine Ex_iload dX11_weeks_82 rfl rfl ?_
      refine Ex_stat 0 dX11_weeks_84 rfl rfl (Or.inl rfl) rfl rfl rfl rfl rfl rfl (Ex_post (x11_below (by omega)) ?_)
      rintro _ _ ⟨rfl, e0⟩
      obtain rfl := Eq.symm e0
      rw [hc]
      refine Ex_istore (L2 := [_, _, _, _, _, _, _, _, _, _, _, _]) dX11_weeks_87 rfl rfl rfl ?_
      refine Ex_iload dX11_weeks_89 rfl rfl ?_
      refine Ex_stat 0 dX11_weeks_91 rfl rfl (Or.inl rfl) rfl rfl rfl rfl rfl rfl (Ex_post (x11_seedBehind) ?_)
      rintro _ _ ⟨rfl, e0⟩
      obtain rfl := Eq.symm e0
      rw [← hs2]
      refine Ex_istore (L2 := [_, _, _, _, _, _, _, _, _, _, _, _]) dX11_weeks_94 rfl rfl rfl ?_
      refine Ex_iconst dX11_weeks_96 rfl ?_
      refine Ex_iload dX11_weeks_97 rfl rfl ?_
      refine Ex_stat 0 dX11_weeks_99 rfl rfl (Or.inl rfl) rfl rfl rfl rfl rfl rfl (Ex_post (x11_below (by omega)) ?_)
      rintro _ _ ⟨rfl, e0⟩
      obtain rfl := Eq.symm e0
      rw [← hwy]
      refine Ex_istore (L2 := [_, _, _, _, _, _, _, _, _, _, _, _]) dX11_weeks_102 rfl rfl rfl ?_
      refine Ex_aload dX11_weeks_104 rfl rfl ?_
      refine Ex_iload dX11_weeks_106 rfl rfl ?_
      refine Ex_iload dX11_weeks_108 rfl rfl ?_
      refine Ex_inv 2 dX11_weeks_110 rfl rfl (Or.inl rfl) rfl rfl rfl rfl hr9 rfl rfl rfl (Ex_post (x7_canTake R9 hg9 (by omega) (by omega)) ?_)
      rintro _ _ ⟨rfl, e0⟩
      obtain rfl := Eq.symm e0
      refine Ex_if_eq (t := 131) dX11_weeks_113 rfl rfl (by split <;> omega) (fun c113 => ?_) (fun c113 => absurd c113 (by rw [if_neg (fun z => q z.2.1)] at c113; omega))
      refine Ex_iinc (L2 := [_, _, _, _, _, _, _, _, _, _, _, _]) dX11_weeks_131 rfl rfl rfl ?_
      refine Ex_goto (t := 61) dX11_weeks_134 rfl ?_
      rw [if_neg q] at kont
      exact ih (i + 1) m tu sw _ T S C _ _ h (by omega) (by omega) Z R R9 hg9 ky kont
    · rw [if_pos q] at kont
      rcases hmw with hmw | hmw
      · rw [hmw, if_pos (by omega)] at kont
        refine Ex_iload dX11_weeks_61 rfl rfl ?_
        refine Ex_bipush dX11_weeks_63 rfl (by decide) ?_
        refine Ex_icmp_ge (t := 137) dX11_weeks_65 rfl rfl (by omega) (fun c65 => absurd c65 (by omega)) (fun c65 => ?_)
        refine Ex_iload dX11_weeks_68 rfl rfl ?_
        refine Ex_stat 0 dX11_weeks_70 rfl rfl (Or.inl rfl) rfl rfl rfl rfl rfl rfl (Ex_post (x11_seedBehind) ?_)
        rintro _ _ ⟨rfl, e0⟩
        obtain rfl := Eq.symm e0
        rw [← hs1]
        refine Ex_istore (L2 := [_, _, _, _, _, _, _, _, _, _, _, _]) dX11_weeks_73 rfl rfl rfl ?_
        refine Ex_aload_n dX11_weeks_75 rfl rfl ?_
        refine Ex_getf dX11_weeks_76 rfl (by first | exact z0' | exact hr) rfl rfl rfl ?_
        refine Ex_getf dX11_weeks_79 rfl (by first | exact z0' | exact hr) rfl rfl rfl ?_
        refine Ex_iload dX11_weeks_82 rfl rfl ?_
        refine Ex_stat 0 dX11_weeks_84 rfl rfl (Or.inl rfl) rfl rfl rfl rfl rfl rfl (Ex_post (x11_below (by omega)) ?_)
        rintro _ _ ⟨rfl, e0⟩
        obtain rfl := Eq.symm e0
        rw [hc]
        refine Ex_istore (L2 := [_, _, _, _, _, _, _, _, _, _, _, _]) dX11_weeks_87 rfl rfl rfl ?_
        refine Ex_iload dX11_weeks_89 rfl rfl ?_
        refine Ex_stat 0 dX11_weeks_91 rfl rfl (Or.inl rfl) rfl rfl rfl rfl rfl rfl (Ex_post (x11_seedBehind) ?_)
        rintro _ _ ⟨rfl, e0⟩
        obtain rfl := Eq.symm e0
        rw [← hs2]
        refine Ex_istore (L2 := [_, _, _, _, _, _, _, _, _, _, _, _]) dX11_weeks_94 rfl rfl rfl ?_
        refine Ex_iconst dX11_weeks_96 rfl ?_
        refine Ex_iload dX11_weeks_97 rfl rfl ?_
        refine Ex_stat 0 dX11_weeks_99 rfl rfl (Or.inl rfl) rfl rfl rfl rfl rfl rfl (Ex_post (x11_below (by omega)) ?_)
        rintro _ _ ⟨rfl, e0⟩
        obtain rfl := Eq.symm e0
        rw [← hwy]
        refine Ex_istore (L2 := [_, _, _, _, _, _, _, _, _, _, _, _]) dX11_weeks_102 rfl rfl rfl ?_
        refine Ex_aload dX11_weeks_104 rfl rfl ?_
        refine Ex_iload dX11_weeks_106 rfl rfl ?_
        refine Ex_iload dX11_weeks_108 rfl rfl ?_
        refine Ex_inv 2 dX11_weeks_110 rfl rfl (Or.inl rfl) rfl rfl rfl rfl hr9 rfl rfl rfl (Ex_post (x7_canTake R9 hg9 (by omega) (by omega)) ?_)
        rintro _ _ ⟨rfl, e0⟩
        obtain rfl := Eq.symm e0
        refine Ex_if_eq (t := 131) dX11_weeks_113 rfl rfl (by split <;> omega) (fun c113 => absurd c113 (by rw [if_pos ⟨by omega, q, by omega⟩] at c113; omega)) (fun c113 => ?_)
        refine Ex_aload dX11_weeks_116 rfl rfl ?_
        refine Ex_iload dX11_weeks_118 rfl rfl ?_
        refine Ex_iload dX11_weeks_120 rfl rfl ?_
        refine Ex_inv 2 dX11_weeks_122 rfl rfl (Or.inl rfl) rfl rfl rfl rfl hr9 rfl rfl rfl (Ex_post (x7_take R9 hg9 kk9 (by omega) hcn q (by omega)) ?_)
        rintro _ h8 ⟨rfl, R8, f8⟩
        have Z8 := Z.t0 f8 R8.any
        have g8 := min_r (K := K) (way := wy) hg9 (fun i hi => (ky i hi).1.2.2.2) hcn q
        refine Ex_if_eq (t := 131) dX11_weeks_125 rfl rfl (by omega) (fun c125 => ?_) (fun c125 => absurd c125 (by omega))
        refine Ex_iinc (L2 := [_, _, _, _, _, _, _, _, _, _, _, _]) dX11_weeks_131 rfl rfl rfl ?_
        refine Ex_goto (t := 61) dX11_weeks_134 rfl ?_
        refine ih (i + 1) (m + 1) tu _ _ _ _ _ _ _ h8 (by omega) (by omega) Z8 (R.fr f8 (by omega)) R8 g8 (ky.fr f8 (by omega)) ?_
        intro tu2 va vb h2 a1 a2 a3 a4 a5 a6
        exact kont tu2 va vb h2 a1 a2 a3 a4 a5 (f8.s0.trans a6)
      · rw [hmw, if_neg (by omega)] at kont
        refine Ex_iload dX11_weeks_61 rfl rfl ?_
        refine Ex_bipush dX11_weeks_63 rfl (by decide) ?_
        refine Ex_icmp_ge (t := 137) dX11_weeks_65 rfl rfl (by omega) (fun c65 => absurd c65 (by omega)) (fun c65 => ?_)
        refine Ex_iload dX11_weeks_68 rfl rfl ?_
        refine Ex_stat 0 dX11_weeks_70 rfl rfl (Or.inl rfl) rfl rfl rfl rfl rfl rfl (Ex_post (x11_seedBehind) ?_)
        rintro _ _ ⟨rfl, e0⟩
        obtain rfl := Eq.symm e0
        rw [← hs1]
        refine Ex_istore (L2 := [_, _, _, _, _, _, _, _, _, _, _, _]) dX11_weeks_73 rfl rfl rfl ?_
        refine Ex_aload_n dX11_weeks_75 rfl rfl ?_
        refine Ex_getf dX11_weeks_76 rfl (by first | exact z0' | exact hr) rfl rfl rfl ?_
        refine Ex_getf dX11_weeks_79 rfl (by first | exact z0' | exact hr) rfl rfl rfl ?_
        refine Ex_iload dX11_weeks_82 rfl rfl ?_
        refine Ex_stat 0 dX11_weeks_84 rfl rfl (Or.inl rfl) rfl rfl rfl rfl rfl rfl (Ex_post (x11_below (by omega)) ?_)
        rintro _ _ ⟨rfl, e0⟩
        obtain rfl := Eq.symm e0
        rw [hc]
        refine Ex_istore (L2 := [_, _, _, _, _, _, _, _, _, _, _, _]) dX11_weeks_87 rfl rfl rfl ?_
        refine Ex_iload dX11_weeks_89 rfl rfl ?_
        refine Ex_stat 0 dX11_weeks_91 rfl rfl (Or.inl rfl) rfl rfl rfl rfl rfl rfl (Ex_post (x11_seedBehind) ?_)
        rintro _ _ ⟨rfl, e0⟩
        obtain rfl := Eq.symm e0
        rw [← hs2]
        refine Ex_istore (L2 := [_, _, _, _, _, _, _, _, _, _, _, _]) dX11_weeks_94 rfl rfl rfl ?_
        refine Ex_iconst dX11_weeks_96 rfl ?_
        refine Ex_iload dX11_weeks_97 rfl rfl ?_
        refine Ex_stat 0 dX11_weeks_99 rfl rfl (Or.inl rfl) rfl rfl rfl rfl rfl rfl (Ex_post (x11_below (by omega)) ?_)
        rintro _ _ ⟨rfl, e0⟩
        obtain rfl := Eq.symm e0
        rw [← hwy]
        refine Ex_istore (L2 := [_, _, _, _, _, _, _, _, _, _, _, _]) dX11_weeks_102 rfl rfl rfl ?_
        refine Ex_aload dX11_weeks_104 rfl rfl ?_
        refine Ex_iload dX11_weeks_106 rfl rfl ?_
        refine Ex_iload dX11_weeks_108 rfl rfl ?_
        refine Ex_inv 2 dX11_weeks_110 rfl rfl (Or.inl rfl) rfl rfl rfl rfl hr9 rfl rfl rfl (Ex_post (x7_canTake R9 hg9 (by omega) (by omega)) ?_)
        rintro _ _ ⟨rfl, e0⟩
        obtain rfl := Eq.symm e0
        refine Ex_if_eq (t := 131) dX11_weeks_113 rfl rfl (by split <;> omega) (fun c113 => absurd c113 (by rw [if_pos ⟨by omega, q, by omega⟩] at c113; omega)) (fun c113 => ?_)
        refine Ex_aload dX11_weeks_116 rfl rfl ?_
        refine Ex_iload dX11_weeks_118 rfl rfl ?_
        refine Ex_iload dX11_weeks_120 rfl rfl ?_
        refine Ex_inv 2 dX11_weeks_122 rfl rfl (Or.inl rfl) rfl rfl rfl rfl hr9 rfl rfl rfl (Ex_post (x7_take R9 hg9 kk9 (by omega) hcn q (by omega)) ?_)
        rintro _ h8 ⟨rfl, R8, f8⟩
        have Z8 := Z.t0 f8 R8.any
        have g8 := min_r (K := K) (way := wy) hg9 (fun i hi => (ky i hi).1.2.2.2) hcn q
        refine Ex_if_eq (t := 131) dX11_weeks_125 rfl rfl (by omega) (fun c125 => absurd c125 (by omega)) (fun c125 => ?_)
        refine Ex_iinc (L2 := [_, _, _, _, _, _, _, _, _, _, _, _]) dX11_weeks_128 rfl rfl rfl ?_
        refine Ex_iinc (L2 := [_, _, _, _, _, _, _, _, _, _, _, _]) dX11_weeks_131 rfl rfl rfl ?_
        refine Ex_goto (t := 61) dX11_weeks_134 rfl ?_
        refine ih (i + 1) (m + 1) tu _ _ _ _ _ _ _ h8 (by omega) (by omega) Z8 (R.fr f8 (by omega)) R8 g8 (ky.fr f8 (by omega)) ?_
        intro tu2 va vb h2 a1 a2 a3 a4 a5 a6
        exact kont tu2 va vb h2 a1 a2 a3 a4 a5 (f8.s0.trans a6)
theorem x11_weeks_o {E : am_E} {d : Nat} {x y n : Nat} {hi l w m tu : Int} {z0 : Int32} {kr : Nat → Nat} {K F T S C : Nat → Int}  (hg : Rng n T S C) (hB : E.2 ≤ x) (hy : x + 57 ≤ y) (hn0 : 0 < n) (hl : 1 ≤ l ∧ l ≤ 20) (hw : 0 ≤ w ∧ w ≤ 1)  : ∀ (k : Nat) (wk st sw : Int) (sd : Int32) (v8 v9 v10 v11 : Value) (h : Hp), wk + k = l → 0 ≤ wk → Scr h x hi → RailAt h (x + 10) n m tu kr T S C → KY h y n kr K F → Ex E (d + 5) mX11_weeks 46 [.ref x, .int (i32 l), .int z0, .int (i32 w), .int sd, .int (i32 st), .int (i32 sw), .int (i32 wk), v8, v9, v10, v11] [] h (fun r1 h1 => Qs h h1 x hi (if w = 0 then (wkO n K F m T S C sd st sw k).1 else (wkO n K F m T S C sd st sw k).2) r1) := by
  intro k
  induction k with
  | zero =>
    intro wk st sw sd v8 v9 v10 v11 h hk hi0 Z R ky
    obtain ⟨⟨bs, z0⟩, z1, ⟨f2, z2⟩, ⟨f3, z3⟩, ⟨f4, z4⟩, ⟨f5, z5⟩, zr0, zr1, zr2, ⟨k5, t5, s5, c5, z55⟩, ⟨k6, t6, s6, c6, z56⟩⟩ := id Z
    obtain ⟨hr, hA, hP, hG, hn6⟩ := id R
    have kk := ky.ok (r := x + 10) (by omega)
    by_cases hw0 : w = 0
    · rw [if_pos hw0]
      refine Ex_iload dX11_weeks_46 rfl rfl ?_
      refine Ex_iload_n dX11_weeks_48 rfl rfl ?_
      refine Ex_icmp_ge (t := 161) dX11_weeks_49 rfl rfl (by omega) (fun c49 => ?_) (fun c49 => absurd c49 (by omega))
      refine Ex_iload_n dX11_weeks_161 rfl rfl ?_
      refine Ex_if_ne (t := 170) dX11_weeks_162 rfl rfl (by omega) (fun c162 => absurd c162 (by omega)) (fun c162 => ?_)
      refine Ex_iload dX11_weeks_165 rfl rfl ?_
      refine Ex_goto (t := 172) dX11_weeks_167 rfl ?_
      refine Ex_iret dX11_weeks_172 rfl rfl ?_
      exact Qs.same Z rfl
    · rw [if_neg hw0]
      refine Ex_iload dX11_weeks_46 rfl rfl ?_
      refine Ex_iload_n dX11_weeks_48 rfl rfl ?_
      refine Ex_icmp_ge (t := 161) dX11_weeks_49 rfl rfl (by omega) (fun c49 => ?_) (fun c49 => absurd c49 (by omega))
      refine Ex_iload_n dX11_weeks_161 rfl rfl ?_
      refine Ex_if_ne (t := 170) dX11_weeks_162 rfl rfl (by omega) (fun c162 => ?_) (fun c162 => absurd c162 (by omega))
      refine Ex_iload dX11_weeks_170 rfl rfl ?_
      refine Ex_iret dX11_weeks_172 rfl rfl ?_
      exact Qs.same Z rfl
  | succ k ih =>
    intro wk st sw sd v8 v9 v10 v11 h hk hi0 Z R ky
    obtain ⟨⟨bs, z0⟩, z1, ⟨f2, z2⟩, ⟨f3, z3⟩, ⟨f4, z4⟩, ⟨f5, z5⟩, zr0, zr1, zr2, ⟨k5, t5, s5, c5, z55⟩, ⟨k6, t6, s6, c6, z56⟩⟩ := id Z
    obtain ⟨hr, hA, hP, hG, hn6⟩ := id R
    have kk := ky.ok (r := x + 10) (by omega)
    have eb : wkO n K F m T S C sd st sw (k + 1) = wkO n K F m T S C (wkI n K F m T S C sd sw 10).2.1 (st + (sm (wkI n K F m T S C sd sw 10).1.2.2.2.2.2.1 0 n - sm S 0 n)) (wkI n K F m T S C sd sw 10).2.2 k := rfl
    rw [eb]
    · refine Ex_iload dX11_weeks_46 rfl rfl ?_
      refine Ex_iload_n dX11_weeks_48 rfl rfl ?_
      refine Ex_icmp_ge (t := 161) dX11_weeks_49 rfl rfl (by omega) (fun c49 => absurd c49 (by omega)) (fun c49 => ?_)
      refine Ex_aload_n dX11_weeks_52 rfl rfl ?_
      refine Ex_inv 2 dX11_weeks_53 rfl rfl (Or.inl rfl) rfl rfl rfl rfl z0 rfl rfl rfl (Ex_post (x11_fromNow Z R hg ky hB hy) ?_)
      rintro _ h9 ⟨rfl, R9, f9⟩
      refine Ex_astore (L2 := [_, _, _, _, _, _, _, _, _, _, _, _]) dX11_weeks_56 rfl rfl rfl ?_
      refine Ex_iconst dX11_weeks_58 rfl ?_
      refine Ex_istore (L2 := [_, _, _, _, _, _, _, _, _, _, _, _]) dX11_weeks_59 rfl rfl rfl ?_
      refine x11_weeks_i hB hy hn0 10 0 m 0 sw sd T S C _ _ h9 (by omega) (by omega) (Z.t0 f9 R9.any) (R.fr f9 (by omega)) R9 hg (ky.fr f9 (by omega)) ?_
      intro tu2 va vb h2 Z2 R2 R3 g3 ky2 f2
      obtain ⟨⟨bs2, z02⟩, -⟩ := id Z2
      obtain ⟨hr2, -⟩ := id R2
      refine Ex_iload dX11_weeks_137 rfl rfl ?_
      refine Ex_aload dX11_weeks_139 rfl rfl ?_
      refine Ex_inv 2 dX11_weeks_141 rfl rfl (Or.inl rfl) rfl rfl rfl rfl R3.1 rfl rfl rfl (Ex_post (x7_allSteps R3 g3) ?_)
      rintro _ _ ⟨rfl, e3⟩
      obtain rfl := Eq.symm e3
      refine Ex_aload_n dX11_weeks_144 rfl rfl ?_
      refine Ex_getf dX11_weeks_145 rfl z02 rfl rfl rfl ?_
      refine Ex_inv 2 dX11_weeks_148 rfl rfl (Or.inl rfl) rfl rfl rfl rfl hr2 rfl rfl rfl (Ex_post (x7_allSteps R2 hg) ?_)
      rintro _ _ ⟨rfl, e4⟩
      obtain rfl := Eq.symm e4
      refine Ex_isub dX11_weeks_151 rfl ?_
      refine Ex_iadd dX11_weeks_152 rfl ?_
      refine Ex_istore (L2 := [_, _, _, _, _, _, _, _, _, _, _, _]) dX11_weeks_153 rfl rfl rfl ?_
      refine Ex_iinc (L2 := [_, _, _, _, _, _, _, _, _, _, _, _]) dX11_weeks_155 rfl rfl rfl ?_
      refine Ex_goto (t := 46) dX11_weeks_158 rfl ?_
      refine Ex_post (ih (wk + 1) _ _ _ _ _ _ _ h2 (by omega) (by omega) Z2 R2 ky2) ?_
      intro r1 h1 z
      exact Qs.trans (f9.s0.trans f2) z
theorem x11_weeks {E : am_E} {d : Nat} {h : Hp} {x y n : Nat} {hi m tu : Int} {kr : Nat → Nat} {K F T S C : Nat → Int} {l w : Int} {z : Int32}  (Z : Scr h x hi) (R : RailAt h (x + 10) n m tu kr T S C) (hg : Rng n T S C) (ky : KY h y n kr K F) (hB : E.2 ≤ x) (hy : x + 57 ≤ y) (hl : (-2147483648 ≤ l ∧ l ≤ 2147483647)) (hw : (-2147483648 ≤ w ∧ w ≤ 2147483647))  : Ex E (d + 5) mX11_weeks 0 [.ref x, .int (i32 l), .int z, .int (i32 w), .retAddr 0, .retAddr 0, .retAddr 0, .retAddr 0, .retAddr 0, .retAddr 0, .retAddr 0, .retAddr 0] [] h (fun r1 h1 => Qs h h1 x hi (an_weeks n m K F T S C l z w) r1) := by
  obtain ⟨⟨bs, z0⟩, z1, ⟨f2, z2⟩, ⟨f3, z3⟩, ⟨f4, z4⟩, ⟨f5, z5⟩, zr0, zr1, zr2, ⟨k5, t5, s5, c5, z55⟩, ⟨k6, t6, s6, c6, z56⟩⟩ := id Z
  obtain ⟨hr, hA, hP, hG, hn6⟩ := id R
  have kk := ky.ok (r := x + 10) (by omega)
  by_cases q : (1 ≤ l ∧ l ≤ 20) ∧ (0 ≤ w ∧ w ≤ 1)
  · by_cases q1 : n = 0
    · refine Ex_iload_n dX11_weeks_0 rfl rfl ?_
      refine Ex_iconst dX11_weeks_1 rfl ?_
      refine Ex_bipush dX11_weeks_2 rfl (by decide) ?_
      refine Ex_stat 0 dX11_weeks_4 rfl rfl (Or.inl rfl) rfl rfl rfl rfl rfl rfl (Ex_post (x11_within (by omega)) ?_)
      rintro _ _ ⟨rfl, e0⟩
      obtain rfl := Eq.symm e0
      refine Ex_if_eq (t := 19) dX11_weeks_7 rfl rfl (by omega) (fun c7 => absurd c7 (by omega)) (fun c7 => ?_)
      refine Ex_iload_n dX11_weeks_10 rfl rfl ?_
      refine Ex_iconst dX11_weeks_11 rfl ?_
      refine Ex_iconst dX11_weeks_12 rfl ?_
      refine Ex_stat 0 dX11_weeks_13 rfl rfl (Or.inl rfl) rfl rfl rfl rfl rfl rfl (Ex_post (x11_within (by omega)) ?_)
      rintro _ _ ⟨rfl, e0⟩
      obtain rfl := Eq.symm e0
      refine Ex_if_ne (t := 21) dX11_weeks_16 rfl rfl (by omega) (fun c16 => ?_) (fun c16 => absurd c16 (by omega))
      refine Ex_aload_n dX11_weeks_21 rfl rfl ?_
      refine Ex_getf dX11_weeks_22 rfl (by first | exact z0 | exact hr) rfl rfl rfl ?_
      refine Ex_getf dX11_weeks_25 rfl (by first | exact z0 | exact hr) rfl rfl rfl ?_
      refine Ex_if_ne (t := 34) dX11_weeks_28 rfl rfl (by omega) (fun c28 => absurd c28 (by omega)) (fun c28 => ?_)
      refine Ex_bipush dX11_weeks_31 rfl (by decide) ?_
      refine Ex_iret dX11_weeks_33 rfl rfl ?_
      exact Qs.same Z (by unfold an_weeks; rw [if_pos q, if_pos q1])
    · have ea : an_weeks n m K F T S C l z w = if w = 0 then (wkO n K F m T S C z 0 0 l.toNat).1 else (wkO n K F m T S C z 0 0 l.toNat).2 := by unfold an_weeks; rw [if_pos q]; exact if_neg q1
      rw [ea]
      refine Ex_iload_n dX11_weeks_0 rfl rfl ?_
      refine Ex_iconst dX11_weeks_1 rfl ?_
      refine Ex_bipush dX11_weeks_2 rfl (by decide) ?_
      refine Ex_stat 0 dX11_weeks_4 rfl rfl (Or.inl rfl) rfl rfl rfl rfl rfl rfl (Ex_post (x11_within (by omega)) ?_)
      rintro _ _ ⟨rfl, e0⟩
      obtain rfl := Eq.symm e0
      refine Ex_if_eq (t := 19) dX11_weeks_7 rfl rfl (by omega) (fun c7 => absurd c7 (by omega)) (fun c7 => ?_)
      refine Ex_iload_n dX11_weeks_10 rfl rfl ?_
      refine Ex_iconst dX11_weeks_11 rfl ?_
      refine Ex_iconst dX11_weeks_12 rfl ?_
      refine Ex_stat 0 dX11_weeks_13 rfl rfl (Or.inl rfl) rfl rfl rfl rfl rfl rfl (Ex_post (x11_within (by omega)) ?_)
      rintro _ _ ⟨rfl, e0⟩
      obtain rfl := Eq.symm e0
      refine Ex_if_ne (t := 21) dX11_weeks_16 rfl rfl (by omega) (fun c16 => ?_) (fun c16 => absurd c16 (by omega))
      refine Ex_aload_n dX11_weeks_21 rfl rfl ?_
      refine Ex_getf dX11_weeks_22 rfl (by first | exact z0 | exact hr) rfl rfl rfl ?_
      refine Ex_getf dX11_weeks_25 rfl (by first | exact z0 | exact hr) rfl rfl rfl ?_
      refine Ex_if_ne (t := 34) dX11_weeks_28 rfl rfl (by omega) (fun c28 => ?_) (fun c28 => absurd c28 (by omega))
      refine Ex_iload_n dX11_weeks_34 rfl rfl ?_
      refine Ex_istore (L2 := [_, _, _, _, _, _, _, _, _, _, _, _]) dX11_weeks_35 rfl rfl rfl ?_
      refine Ex_iconst dX11_weeks_37 rfl ?_
      refine Ex_istore (L2 := [_, _, _, _, _, _, _, _, _, _, _, _]) dX11_weeks_38 rfl rfl rfl ?_
      refine Ex_iconst dX11_weeks_40 rfl ?_
      refine Ex_istore (L2 := [_, _, _, _, _, _, _, _, _, _, _, _]) dX11_weeks_41 rfl rfl rfl ?_
      refine Ex_iconst dX11_weeks_43 rfl ?_
      refine Ex_istore (L2 := [_, _, _, _, _, _, _, _, _, _, _, _]) dX11_weeks_44 rfl rfl rfl ?_
      exact x11_weeks_o hg hB hy (by omega) q.1 q.2 l.toNat 0 0 0 z _ _ _ _ h (by omega) (by omega) Z R ky
  · refine Ex_iload_n dX11_weeks_0 rfl rfl ?_
    refine Ex_iconst dX11_weeks_1 rfl ?_
    refine Ex_bipush dX11_weeks_2 rfl (by decide) ?_
    refine Ex_stat 0 dX11_weeks_4 rfl rfl (Or.inl rfl) rfl rfl rfl rfl rfl rfl (Ex_post (x11_within (by omega)) ?_)
    rintro _ _ ⟨rfl, e0⟩
    obtain rfl := Eq.symm e0
    refine Ex_if_eq (t := 19) dX11_weeks_7 rfl rfl (by omega) (fun c7 => ?_) (fun c7 => ?_)
    · refine Ex_iconst dX11_weeks_19 rfl ?_
      refine Ex_iret dX11_weeks_20 rfl rfl ?_
      exact Qs.same Z (by unfold an_weeks; rw [if_neg q])
    · refine Ex_iload_n dX11_weeks_10 rfl rfl ?_
      refine Ex_iconst dX11_weeks_11 rfl ?_
      refine Ex_iconst dX11_weeks_12 rfl ?_
      refine Ex_stat 0 dX11_weeks_13 rfl rfl (Or.inl rfl) rfl rfl rfl rfl rfl rfl (Ex_post (x11_within (by omega)) ?_)
      rintro _ _ ⟨rfl, e0⟩
      obtain rfl := Eq.symm e0
      refine Ex_if_ne (t := 21) dX11_weeks_16 rfl rfl (by omega) (fun c16 => ?_) (fun c16 => ?_)
      · exfalso; omega
      · refine Ex_iconst dX11_weeks_19 rfl ?_
        refine Ex_iret dX11_weeks_20 rfl rfl ?_
        exact Qs.same Z (by unfold an_weeks; rw [if_neg q])
