/-! a heap as it was, and cells behind it (by program: wip/whole/spec_k.py) -/
def bld (h0 : Hp) (xs : List OC) (s : Nat) : Hp := (fun q => if q < h0.2.1 then h0.1 q else xs[q - h0.2.1]?, h0.2.1 + xs.length, s)
theorem bld_0 {h0 : Hp} (w : WF h0) : h0 = bld h0 [] h0.2.2 := by
  obtain ⟨f, a, b⟩ := h0
  unfold bld
  simp only [List.length_nil, Nat.add_zero, List.getElem?_nil]
  congr 1
  funext q
  split
  · rfl
  · rename_i c
    exact w q (by simpa using c)
theorem bld_at (h0 : Hp) (xs : List OC) (s i : Nat) : (bld h0 xs s).1 (h0.2.1 + i) = xs[i]? := by
  simp only [bld]
  rw [if_neg (by omega), Nat.add_sub_cancel_left]
theorem bld_lt {h0 : Hp} {xs : List OC} {s q : Nat} (h : q < h0.2.1) : (bld h0 xs s).1 q = h0.1 q := by
  simp [bld, h]
theorem bld_new (h0 : Hp) (xs : List OC) (s n : Nat) (x : OC) : am_new (bld h0 xs s) x n = bld h0 (xs ++ [x]) (s + n) := by
  unfold am_new bld
  simp only [List.length_append, List.length_singleton, Nat.add_assoc]
  congr 1
  funext q
  by_cases c : q < h0.2.1
  · simp only [c, if_true]
    rw [if_neg (by omega)]
  · simp only [c, if_false]
    by_cases e : q = h0.2.1 + xs.length
    · subst e
      simp
    · rw [if_neg e]
      by_cases c2 : q - h0.2.1 < xs.length
      · rw [List.getElem?_append_left c2]
      · rw [List.getElem?_eq_none (by omega), List.getElem?_eq_none (by simp; omega)]
theorem bld_put {h0 : Hp} {xs : List OC} {s i : Nat} (x : OC) (hi : i < xs.length) : am_put (bld h0 xs s) (h0.2.1 + i) x = bld h0 (xs.set i x) s := by
  unfold am_put bld
  simp only [List.length_set]
  congr 1
  funext q
  by_cases c : q < h0.2.1
  · simp only [c, if_true]
    rw [if_neg (by omega)]
  · simp only [c, if_false]
    by_cases e : q = h0.2.1 + i
    · subst e
      simp [hi]
    · rw [if_neg e, List.getElem?_set, if_neg (by omega)]
theorem bld_kh {h0 : Hp} {xs : List OC} {s i : Nat} {z : OC} (x y : OC) (hi : i = xs.length) : kh (bld h0 (xs ++ [z]) s) (h0.2.1 + i) x y = bld h0 (xs ++ [x, y]) (s + 8) := by
  subst hi
  unfold kh bld
  simp only [List.length_append, List.length_singleton, List.length_cons, List.length_nil, Nat.add_assoc, Nat.reduceAdd]
  congr 1
  funext q
  by_cases c : q < h0.2.1
  · simp only [c, if_true]
    rw [if_neg (by omega), if_neg (by omega)]
  · simp only [c, if_false]
    by_cases e : q = h0.2.1 + xs.length
    · subst e; simp
    · rw [if_neg e]
      by_cases e2 : q = h0.2.1 + (xs.length + 1)
      · subst e2; simp [List.getElem?_append]
      · rw [if_neg e2]
        by_cases c2 : q - h0.2.1 < xs.length
        · rw [List.getElem?_append_left c2, List.getElem?_append_left c2]
        · rw [List.getElem?_eq_none (by simp; omega), List.getElem?_eq_none (by simp; omega)]
/-- a Rail as it is made -/
abbrev rl0 (r p : Nat) : List OC := [rcell r 0 0 0, rarr r, pcell p 0 0 0, pcell p 0 0 0, pcell p 0 0 0, pcell p 0 0 0, pcell p 0 0 0, pcell p 0 0 0, pcell p 0 0 0]
abbrev pl (r : Nat) : Nat → List Value
  | 0 => [.null, .null, .null, .null, .null, .null]
  | 1 => [.ref (r + 2 + 0), .null, .null, .null, .null, .null]
  | 2 => [.ref (r + 2 + 0), .ref (r + 2 + 1), .null, .null, .null, .null]
  | 3 => [.ref (r + 2 + 0), .ref (r + 2 + 1), .ref (r + 2 + 2), .null, .null, .null]
  | 4 => [.ref (r + 2 + 0), .ref (r + 2 + 1), .ref (r + 2 + 2), .ref (r + 2 + 3), .null, .null]
  | 5 => [.ref (r + 2 + 0), .ref (r + 2 + 1), .ref (r + 2 + 2), .ref (r + 2 + 3), .ref (r + 2 + 4), .null]
  | _ => [.ref (r + 2 + 0), .ref (r + 2 + 1), .ref (r + 2 + 2), .ref (r + 2 + 3), .ref (r + 2 + 4), .ref (r + 2 + 5)]
section
variable {E : am_E} {d pc q : Nat} {M : Mth} {L S : List Value} {h h2 : Hp} {Q : Option Value → Hp → Prop}
theorem Ex_h (e : h = h2) (k : Ex E d M pc L S h2 Q) : Ex E d M pc L S h Q := e ▸ k
theorem bq_at {h0 : Hp} {xs : List OC} {r : Nat} (hr : r = h0.2.1 + xs.length) (ys : List OC) (t i q : Nat) (hq : q = r + i) : (bld h0 (xs ++ ys) t).1 q = ys[i]? := by
  subst hr hq
  rw [Nat.add_assoc, bld_at, List.getElem?_append_right (by omega)]
  congr 1
  omega
theorem bq_new {h0 : Hp} {xs : List OC} (ys : List OC) (t n : Nat) (x : OC) : am_new (bld h0 (xs ++ ys) t) x n = bld h0 (xs ++ (ys ++ [x])) (t + n) := by
  rw [bld_new, List.append_assoc]
theorem bq_nx {h0 : Hp} {xs : List OC} {r : Nat} (hr : r = h0.2.1 + xs.length) (ys : List OC) (t : Nat) : (bld h0 (xs ++ ys) t).2.1 = r + ys.length := by
  subst hr
  simp [bld]
  omega
theorem bq_put {h0 : Hp} {xs : List OC} {r : Nat} (hr : r = h0.2.1 + xs.length) (ys : List OC) (t i q : Nat) (x : OC) (hq : q = r + i) (hi : Nat.blt i ys.length = true) : am_put (bld h0 (xs ++ ys) t) q x = bld h0 (xs ++ ys.set i x) t := by
  have hi2 : i < ys.length := Nat.le_of_ble_eq_true hi
  subst hr hq
  rw [Nat.add_assoc, bld_put x (by simp; omega), List.set_append_right _ _ (by omega)]
  congr 3
  omega
theorem Ex_newB {h0 : Hp} {xs ys zs : List OC} {r i tg n t a t2 : Nat} {fs : List Value} (hr : r = h0.2.1 + xs.length) (hd : decode M.2.2.1 pc = .ok (.new i, 3)) (hq : pc + 3 = q) (hn : am_nw M.1 i = some tg) (hN : am_N tg = n) (hs : am_df tg = fs) (hz : ys ++ [(tg, fs)] = zs) (hl : r + ys.length = a) (ht : t + n = t2) (k : Ex E d M q L (.ref a :: S) (bld h0 (xs ++ zs) t2) Q) : Ex E d M pc L S (bld h0 (xs ++ ys) t) Q := by
  refine Ex_new hd hq hn hN hs ?_
  rw [bq_new, bq_nx hr, hz, hl, ht]
  exact k
theorem Ex_newIB {h0 : Hp} {xs ys zs : List OC} {r N t a t2 : Nat} {fs : List Value} {z : Int} (hr : r = h0.2.1 + xs.length) (hd : decode M.2.2.1 pc = .ok (.newarray .int, 2)) (hq : pc + 2 = q) (hn : 0 ≤ z ∧ z ≤ 100000) (hN : z.toNat = N) (hfs : List.replicate N (.int (i32 0)) = fs) (hz : ys ++ [(20, fs)] = zs) (hl : r + ys.length = a) (ht : t + N = t2) (k : Ex E d M q L (.ref a :: S) (bld h0 (xs ++ zs) t2) Q) : Ex E d M pc L (.int (i32 z) :: S) (bld h0 (xs ++ ys) t) Q := by
  refine Ex_newaI hd hq hn hN hfs ?_
  rw [bq_new, bq_nx hr, hz, hl, ht]
  exact k
theorem Ex_newLB {h0 : Hp} {xs ys zs : List OC} {r N t a t2 : Nat} {fs : List Value} {z : Int} (hr : r = h0.2.1 + xs.length) (hd : decode M.2.2.1 pc = .ok (.newarray .long, 2)) (hq : pc + 2 = q) (hn : 0 ≤ z ∧ z ≤ 100000) (hN : z.toNat = N) (hfs : List.replicate N (.long (i64 0)) = fs) (hz : ys ++ [(21, fs)] = zs) (hl : r + ys.length = a) (ht : t + N = t2) (k : Ex E d M q L (.ref a :: S) (bld h0 (xs ++ zs) t2) Q) : Ex E d M pc L (.int (i32 z) :: S) (bld h0 (xs ++ ys) t) Q := by
  refine Ex_newaL hd hq hn hN hfs ?_
  rw [bq_new, bq_nx hr, hz, hl, ht]
  exact k
theorem Ex_anewB {h0 : Hp} {xs ys zs : List OC} {r i tg N t a t2 : Nat} {fs : List Value} {z : Int} (hr : r = h0.2.1 + xs.length) (hd : decode M.2.2.1 pc = .ok (.anewarray i, 3)) (hq : pc + 3 = q) (ht : am_an M.1 i = some tg) (hn : 0 ≤ z ∧ z ≤ 100000) (hN : z.toNat = N) (hfs : List.replicate N Value.null = fs) (hz : ys ++ [(tg, fs)] = zs) (hl : r + ys.length = a) (ht2 : t + N = t2) (k : Ex E d M q L (.ref a :: S) (bld h0 (xs ++ zs) t2) Q) : Ex E d M pc L (.int (i32 z) :: S) (bld h0 (xs ++ ys) t) Q := by
  refine Ex_anew hd hq ht hn hN hfs ?_
  rw [bq_new, bq_nx hr, hz, hl, ht2]
  exact k
theorem Ex_putB {h0 : Hp} {xs ys zs : List OC} {r i j a tg k0 t : Nat} {fs fs2 : List Value} {ts : List Nat} {v : Value} (hr : r = h0.2.1 + xs.length) (hB : E.2 ≤ h0.2.1) (hd : decode M.2.2.1 pc = .ok (.putfield i, 3)) (hq : pc + 3 = q) (ha : ys[j]? = some (tg, fs)) (hf : am_fld M.1 i = some (k0, ts)) (ht : ts.contains tg = true) (hpf : am_pf M tg k0 = true) (hn : narrow (am_ty tg k0) v = v) (hfit : fits (am_ty tg k0) v = true) (haj : a = r + j) (hs : fs.set k0 v = fs2) (hj : Nat.blt j ys.length = true) (hz : ys.set j (tg, fs2) = zs) (k : Ex E d M q L S (bld h0 (xs ++ zs) t) Q) : Ex E d M pc L (v :: .ref a :: S) (bld h0 (xs ++ ys) t) Q := by
  refine Ex_putf hd hq ((bq_at hr _ _ j _ haj).trans ha) hf ht hpf hn hfit (by omega) hs ?_
  rw [bq_put hr _ _ j _ _ haj hj, hz]
  exact k
theorem Ex_aastB {h0 : Hp} {xs ys zs : List OC} {r j j2 a b tg tg2 t : Nat} {x : Int} {fs fs2 gs : List Value} (hr : r = h0.2.1 + xs.length) (hB : E.2 ≤ h0.2.1) (hd : decode M.2.2.1 pc = .ok (.aastore, 1)) (hq : pc + 1 = q) (ha : ys[j]? = some (tg, fs)) (hb : ys[j2]? = some (tg2, gs)) (ht : Nat.ble 22 tg = true) (ht2 : Nat.blt tg 26 = true) (hel : (am_ael tg).contains tg2 = true) (hx : 0 ≤ x ∧ x ≤ 2147483647) (hlt : Nat.blt x.toNat fs.length = true) (haj : a = r + j) (hbj : b = r + j2) (hs : fs.set x.toNat (.ref b) = fs2) (hj : Nat.blt j ys.length = true) (hz : ys.set j (tg, fs2) = zs) (k : Ex E d M q L S (bld h0 (xs ++ zs) t) Q) : Ex E d M pc L (.ref b :: .int (i32 x) :: .ref a :: S) (bld h0 (xs ++ ys) t) Q := by
  refine Ex_aast hd hq ((bq_at hr _ _ j _ haj).trans ha) ((bq_at hr _ _ j2 _ hbj).trans hb) ⟨Nat.le_of_ble_eq_true ht, Nat.le_of_ble_eq_true ht2⟩ hel hx (Nat.le_of_ble_eq_true hlt) (by omega) hs ?_
  rw [bq_put hr _ _ j _ _ haj hj, hz]
  exact k
end
theorem x7_init {E : am_E} {d : Nat} {h0 : Hp} {xs : List OC} {s p r : Nat} (hr : r = h0.2.1 + xs.length) (hB : E.2 ≤ h0.2.1) : Ex E (d + 2) mX7_init 0 [.ref r, .ref p, .retAddr 0] [] (bld h0 (xs ++ [(7, [.null, .null, .int (i32 0), .int (i32 0), .int (i32 0)])]) s) (fun r1 h1 => r1 = none ∧ h1 = bld h0 (xs ++ rl0 r p) (s + 34)) := by
  refine Ex_aload_n dX7_init_0 rfl rfl ?_
  refine Ex_obj dX7_init_1 rfl rfl rfl ?_
  refine Ex_aload_n dX7_init_4 rfl rfl ?_
  refine Ex_bipush dX7_init_5 rfl (by decide) ?_
  refine Ex_anewB (N := 6) (a := r + 1) (zs := [(7, [.null, .null, .int (i32 0), .int (i32 0), .int (i32 0)]), (23, [.null, .null, .null, .null, .null, .null])]) (t2 := s + 6) hr dX7_init_7 rfl rfl (by omega) rfl rfl rfl rfl rfl ?_
  refine Ex_putB (j := 0) (fs2 := [_, _, _, _, _]) (zs := [(7, [.ref (r + 1), .null, .int (i32 0), .int (i32 0), .int (i32 0)]), (23, [.null, .null, .null, .null, .null, .null])]) hr hB dX7_init_10 rfl rfl rfl rfl rfl rfl rfl rfl rfl rfl rfl ?_
  refine Ex_iconst dX7_init_13 rfl ?_
  refine Ex_istore_n (L2 := [_, _, _]) dX7_init_14 rfl rfl rfl ?_
  refine Ex_iload_n (x := i32 0) dX7_init_15 rfl rfl ?_
  refine Ex_aload_n dX7_init_16 rfl rfl ?_
  refine Ex_getf dX7_init_17 rfl (bq_at hr _ _ 0 _ rfl) rfl rfl rfl ?_
  refine Ex_alen (n := 6) dX7_init_20 rfl (bq_at hr _ _ 1 _ rfl) (by omega) rfl ?_
  refine Ex_icmp_ge (t := 44) dX7_init_21 rfl rfl (by omega) (fun z => absurd z (by omega)) (fun _ => ?_)
  refine Ex_aload_n dX7_init_24 rfl rfl ?_
  refine Ex_getf dX7_init_25 rfl (bq_at hr _ _ 0 _ rfl) rfl rfl rfl ?_
  refine Ex_iload_n (x := i32 0) dX7_init_28 rfl rfl ?_
  refine Ex_newB (a := r + 2) (zs := [(7, [.ref (r + 1), .null, .int (i32 0), .int (i32 0), .int (i32 0)]), (23, [.null, .null, .null, .null, .null, .null]), (5, [.null, .int (i32 0), .int (i32 0), .int (i32 0)])]) (t2 := s + 10) hr dX7_init_29 rfl rfl rfl rfl rfl rfl rfl ?_
  refine Ex_dup dX7_init_32 rfl rfl ?_
  refine Ex_aload_n dX7_init_33 rfl rfl ?_
  refine Ex_spec dX7_init_34 rfl rfl rfl rfl rfl rfl rfl rfl (Ex_post (x5_init (fs := []) (bq_at hr _ _ 2 _ rfl) (by omega)) ?_)
  rintro _ _ ⟨rfl, rfl⟩
  refine Ex_h (h2 := bld h0 (xs ++ [(7, [.ref (r + 1), .null, .int (i32 0), .int (i32 0), .int (i32 0)]), (23, [.null, .null, .null, .null, .null, .null]), pcell p 0 0 0]) (s + 10)) (bq_put hr _ _ 2 _ _ rfl rfl) ?_
  refine Ex_aastB (j := 1) (j2 := 2) (zs := [(7, [.ref (r + 1), .null, .int (i32 0), .int (i32 0), .int (i32 0)]), (23, [.ref (r + 2), .null, .null, .null, .null, .null]), pcell p 0 0 0]) hr hB dX7_init_37 rfl rfl rfl rfl rfl rfl (by omega) rfl rfl rfl rfl rfl rfl ?_
  refine Ex_iinc (L2 := [_, _, .int (i32 1)]) dX7_init_38 rfl rfl rfl ?_
  refine Ex_goto (t := 15) dX7_init_41 rfl ?_
  refine Ex_iload_n (x := i32 1) dX7_init_15 rfl rfl ?_
  refine Ex_aload_n dX7_init_16 rfl rfl ?_
  refine Ex_getf dX7_init_17 rfl (bq_at hr _ _ 0 _ rfl) rfl rfl rfl ?_
  refine Ex_alen (n := 6) dX7_init_20 rfl (bq_at hr _ _ 1 _ rfl) (by omega) rfl ?_
  refine Ex_icmp_ge (t := 44) dX7_init_21 rfl rfl (by omega) (fun z => absurd z (by omega)) (fun _ => ?_)
  refine Ex_aload_n dX7_init_24 rfl rfl ?_
  refine Ex_getf dX7_init_25 rfl (bq_at hr _ _ 0 _ rfl) rfl rfl rfl ?_
  refine Ex_iload_n (x := i32 1) dX7_init_28 rfl rfl ?_
  refine Ex_newB (a := r + 3) (zs := [(7, [.ref (r + 1), .null, .int (i32 0), .int (i32 0), .int (i32 0)]), (23, [.ref (r + 2), .null, .null, .null, .null, .null]), pcell p 0 0 0, (5, [.null, .int (i32 0), .int (i32 0), .int (i32 0)])]) (t2 := s + 14) hr dX7_init_29 rfl rfl rfl rfl rfl rfl rfl ?_
  refine Ex_dup dX7_init_32 rfl rfl ?_
  refine Ex_aload_n dX7_init_33 rfl rfl ?_
  refine Ex_spec dX7_init_34 rfl rfl rfl rfl rfl rfl rfl rfl (Ex_post (x5_init (fs := []) (bq_at hr _ _ 3 _ rfl) (by omega)) ?_)
  rintro _ _ ⟨rfl, rfl⟩
  refine Ex_h (h2 := bld h0 (xs ++ [(7, [.ref (r + 1), .null, .int (i32 0), .int (i32 0), .int (i32 0)]), (23, [.ref (r + 2), .null, .null, .null, .null, .null]), pcell p 0 0 0, pcell p 0 0 0]) (s + 14)) (bq_put hr _ _ 3 _ _ rfl rfl) ?_
  refine Ex_aastB (j := 1) (j2 := 3) (zs := [(7, [.ref (r + 1), .null, .int (i32 0), .int (i32 0), .int (i32 0)]), (23, [.ref (r + 2), .ref (r + 3), .null, .null, .null, .null]), pcell p 0 0 0, pcell p 0 0 0]) hr hB dX7_init_37 rfl rfl rfl rfl rfl rfl (by omega) rfl rfl rfl rfl rfl rfl ?_
  refine Ex_iinc (L2 := [_, _, .int (i32 2)]) dX7_init_38 rfl rfl rfl ?_
  refine Ex_goto (t := 15) dX7_init_41 rfl ?_
  refine Ex_iload_n (x := i32 2) dX7_init_15 rfl rfl ?_
  refine Ex_aload_n dX7_init_16 rfl rfl ?_
  refine Ex_getf dX7_init_17 rfl (bq_at hr _ _ 0 _ rfl) rfl rfl rfl ?_
  refine Ex_alen (n := 6) dX7_init_20 rfl (bq_at hr _ _ 1 _ rfl) (by omega) rfl ?_
  refine Ex_icmp_ge (t := 44) dX7_init_21 rfl rfl (by omega) (fun z => absurd z (by omega)) (fun _ => ?_)
  refine Ex_aload_n dX7_init_24 rfl rfl ?_
  refine Ex_getf dX7_init_25 rfl (bq_at hr _ _ 0 _ rfl) rfl rfl rfl ?_
  refine Ex_iload_n (x := i32 2) dX7_init_28 rfl rfl ?_
  refine Ex_newB (a := r + 4) (zs := [(7, [.ref (r + 1), .null, .int (i32 0), .int (i32 0), .int (i32 0)]), (23, [.ref (r + 2), .ref (r + 3), .null, .null, .null, .null]), pcell p 0 0 0, pcell p 0 0 0, (5, [.null, .int (i32 0), .int (i32 0), .int (i32 0)])]) (t2 := s + 18) hr dX7_init_29 rfl rfl rfl rfl rfl rfl rfl ?_
  refine Ex_dup dX7_init_32 rfl rfl ?_
  refine Ex_aload_n dX7_init_33 rfl rfl ?_
  refine Ex_spec dX7_init_34 rfl rfl rfl rfl rfl rfl rfl rfl (Ex_post (x5_init (fs := []) (bq_at hr _ _ 4 _ rfl) (by omega)) ?_)
  rintro _ _ ⟨rfl, rfl⟩
  refine Ex_h (h2 := bld h0 (xs ++ [(7, [.ref (r + 1), .null, .int (i32 0), .int (i32 0), .int (i32 0)]), (23, [.ref (r + 2), .ref (r + 3), .null, .null, .null, .null]), pcell p 0 0 0, pcell p 0 0 0, pcell p 0 0 0]) (s + 18)) (bq_put hr _ _ 4 _ _ rfl rfl) ?_
  refine Ex_aastB (j := 1) (j2 := 4) (zs := [(7, [.ref (r + 1), .null, .int (i32 0), .int (i32 0), .int (i32 0)]), (23, [.ref (r + 2), .ref (r + 3), .ref (r + 4), .null, .null, .null]), pcell p 0 0 0, pcell p 0 0 0, pcell p 0 0 0]) hr hB dX7_init_37 rfl rfl rfl rfl rfl rfl (by omega) rfl rfl rfl rfl rfl rfl ?_
  refine Ex_iinc (L2 := [_, _, .int (i32 3)]) dX7_init_38 rfl rfl rfl ?_
  refine Ex_goto (t := 15) dX7_init_41 rfl ?_
  refine Ex_iload_n (x := i32 3) dX7_init_15 rfl rfl ?_
  refine Ex_aload_n dX7_init_16 rfl rfl ?_
  refine Ex_getf dX7_init_17 rfl (bq_at hr _ _ 0 _ rfl) rfl rfl rfl ?_
  refine Ex_alen (n := 6) dX7_init_20 rfl (bq_at hr _ _ 1 _ rfl) (by omega) rfl ?_
  refine Ex_icmp_ge (t := 44) dX7_init_21 rfl rfl (by omega) (fun z => absurd z (by omega)) (fun _ => ?_)
  refine Ex_aload_n dX7_init_24 rfl rfl ?_
  refine Ex_getf dX7_init_25 rfl (bq_at hr _ _ 0 _ rfl) rfl rfl rfl ?_
  refine Ex_iload_n (x := i32 3) dX7_init_28 rfl rfl ?_
  refine Ex_newB (a := r + 5) (zs := [(7, [.ref (r + 1), .null, .int (i32 0), .int (i32 0), .int (i32 0)]), (23, [.ref (r + 2), .ref (r + 3), .ref (r + 4), .null, .null, .null]), pcell p 0 0 0, pcell p 0 0 0, pcell p 0 0 0, (5, [.null, .int (i32 0), .int (i32 0), .int (i32 0)])]) (t2 := s + 22) hr dX7_init_29 rfl rfl rfl rfl rfl rfl rfl ?_
  refine Ex_dup dX7_init_32 rfl rfl ?_
  refine Ex_aload_n dX7_init_33 rfl rfl ?_
  refine Ex_spec dX7_init_34 rfl rfl rfl rfl rfl rfl rfl rfl (Ex_post (x5_init (fs := []) (bq_at hr _ _ 5 _ rfl) (by omega)) ?_)
  rintro _ _ ⟨rfl, rfl⟩
  refine Ex_h (h2 := bld h0 (xs ++ [(7, [.ref (r + 1), .null, .int (i32 0), .int (i32 0), .int (i32 0)]), (23, [.ref (r + 2), .ref (r + 3), .ref (r + 4), .null, .null, .null]), pcell p 0 0 0, pcell p 0 0 0, pcell p 0 0 0, pcell p 0 0 0]) (s + 22)) (bq_put hr _ _ 5 _ _ rfl rfl) ?_
  refine Ex_aastB (j := 1) (j2 := 5) (zs := [(7, [.ref (r + 1), .null, .int (i32 0), .int (i32 0), .int (i32 0)]), (23, [.ref (r + 2), .ref (r + 3), .ref (r + 4), .ref (r + 5), .null, .null]), pcell p 0 0 0, pcell p 0 0 0, pcell p 0 0 0, pcell p 0 0 0]) hr hB dX7_init_37 rfl rfl rfl rfl rfl rfl (by omega) rfl rfl rfl rfl rfl rfl ?_
  refine Ex_iinc (L2 := [_, _, .int (i32 4)]) dX7_init_38 rfl rfl rfl ?_
  refine Ex_goto (t := 15) dX7_init_41 rfl ?_
  refine Ex_iload_n (x := i32 4) dX7_init_15 rfl rfl ?_
  refine Ex_aload_n dX7_init_16 rfl rfl ?_
  refine Ex_getf dX7_init_17 rfl (bq_at hr _ _ 0 _ rfl) rfl rfl rfl ?_
  refine Ex_alen (n := 6) dX7_init_20 rfl (bq_at hr _ _ 1 _ rfl) (by omega) rfl ?_
  refine Ex_icmp_ge (t := 44) dX7_init_21 rfl rfl (by omega) (fun z => absurd z (by omega)) (fun _ => ?_)
  refine Ex_aload_n dX7_init_24 rfl rfl ?_
  refine Ex_getf dX7_init_25 rfl (bq_at hr _ _ 0 _ rfl) rfl rfl rfl ?_
  refine Ex_iload_n (x := i32 4) dX7_init_28 rfl rfl ?_
  refine Ex_newB (a := r + 6) (zs := [(7, [.ref (r + 1), .null, .int (i32 0), .int (i32 0), .int (i32 0)]), (23, [.ref (r + 2), .ref (r + 3), .ref (r + 4), .ref (r + 5), .null, .null]), pcell p 0 0 0, pcell p 0 0 0, pcell p 0 0 0, pcell p 0 0 0, (5, [.null, .int (i32 0), .int (i32 0), .int (i32 0)])]) (t2 := s + 26) hr dX7_init_29 rfl rfl rfl rfl rfl rfl rfl ?_
  refine Ex_dup dX7_init_32 rfl rfl ?_
  refine Ex_aload_n dX7_init_33 rfl rfl ?_
  refine Ex_spec dX7_init_34 rfl rfl rfl rfl rfl rfl rfl rfl (Ex_post (x5_init (fs := []) (bq_at hr _ _ 6 _ rfl) (by omega)) ?_)
  rintro _ _ ⟨rfl, rfl⟩
  refine Ex_h (h2 := bld h0 (xs ++ [(7, [.ref (r + 1), .null, .int (i32 0), .int (i32 0), .int (i32 0)]), (23, [.ref (r + 2), .ref (r + 3), .ref (r + 4), .ref (r + 5), .null, .null]), pcell p 0 0 0, pcell p 0 0 0, pcell p 0 0 0, pcell p 0 0 0, pcell p 0 0 0]) (s + 26)) (bq_put hr _ _ 6 _ _ rfl rfl) ?_
  refine Ex_aastB (j := 1) (j2 := 6) (zs := [(7, [.ref (r + 1), .null, .int (i32 0), .int (i32 0), .int (i32 0)]), (23, [.ref (r + 2), .ref (r + 3), .ref (r + 4), .ref (r + 5), .ref (r + 6), .null]), pcell p 0 0 0, pcell p 0 0 0, pcell p 0 0 0, pcell p 0 0 0, pcell p 0 0 0]) hr hB dX7_init_37 rfl rfl rfl rfl rfl rfl (by omega) rfl rfl rfl rfl rfl rfl ?_
  refine Ex_iinc (L2 := [_, _, .int (i32 5)]) dX7_init_38 rfl rfl rfl ?_
  refine Ex_goto (t := 15) dX7_init_41 rfl ?_
  refine Ex_iload_n (x := i32 5) dX7_init_15 rfl rfl ?_
  refine Ex_aload_n dX7_init_16 rfl rfl ?_
  refine Ex_getf dX7_init_17 rfl (bq_at hr _ _ 0 _ rfl) rfl rfl rfl ?_
  refine Ex_alen (n := 6) dX7_init_20 rfl (bq_at hr _ _ 1 _ rfl) (by omega) rfl ?_
  refine Ex_icmp_ge (t := 44) dX7_init_21 rfl rfl (by omega) (fun z => absurd z (by omega)) (fun _ => ?_)
  refine Ex_aload_n dX7_init_24 rfl rfl ?_
  refine Ex_getf dX7_init_25 rfl (bq_at hr _ _ 0 _ rfl) rfl rfl rfl ?_
  refine Ex_iload_n (x := i32 5) dX7_init_28 rfl rfl ?_
  refine Ex_newB (a := r + 7) (zs := [(7, [.ref (r + 1), .null, .int (i32 0), .int (i32 0), .int (i32 0)]), (23, [.ref (r + 2), .ref (r + 3), .ref (r + 4), .ref (r + 5), .ref (r + 6), .null]), pcell p 0 0 0, pcell p 0 0 0, pcell p 0 0 0, pcell p 0 0 0, pcell p 0 0 0, (5, [.null, .int (i32 0), .int (i32 0), .int (i32 0)])]) (t2 := s + 30) hr dX7_init_29 rfl rfl rfl rfl rfl rfl rfl ?_
  refine Ex_dup dX7_init_32 rfl rfl ?_
  refine Ex_aload_n dX7_init_33 rfl rfl ?_
  refine Ex_spec dX7_init_34 rfl rfl rfl rfl rfl rfl rfl rfl (Ex_post (x5_init (fs := []) (bq_at hr _ _ 7 _ rfl) (by omega)) ?_)
  rintro _ _ ⟨rfl, rfl⟩
  refine Ex_h (h2 := bld h0 (xs ++ [(7, [.ref (r + 1), .null, .int (i32 0), .int (i32 0), .int (i32 0)]), (23, [.ref (r + 2), .ref (r + 3), .ref (r + 4), .ref (r + 5), .ref (r + 6), .null]), pcell p 0 0 0, pcell p 0 0 0, pcell p 0 0 0, pcell p 0 0 0, pcell p 0 0 0, pcell p 0 0 0]) (s + 30)) (bq_put hr _ _ 7 _ _ rfl rfl) ?_
  refine Ex_aastB (j := 1) (j2 := 7) (zs := [(7, [.ref (r + 1), .null, .int (i32 0), .int (i32 0), .int (i32 0)]), (23, [.ref (r + 2), .ref (r + 3), .ref (r + 4), .ref (r + 5), .ref (r + 6), .ref (r + 7)]), pcell p 0 0 0, pcell p 0 0 0, pcell p 0 0 0, pcell p 0 0 0, pcell p 0 0 0, pcell p 0 0 0]) hr hB dX7_init_37 rfl rfl rfl rfl rfl rfl (by omega) rfl rfl rfl rfl rfl rfl ?_
  refine Ex_iinc (L2 := [_, _, .int (i32 6)]) dX7_init_38 rfl rfl rfl ?_
  refine Ex_goto (t := 15) dX7_init_41 rfl ?_
  refine Ex_iload_n (x := i32 6) dX7_init_15 rfl rfl ?_
  refine Ex_aload_n dX7_init_16 rfl rfl ?_
  refine Ex_getf dX7_init_17 rfl (bq_at hr _ _ 0 _ rfl) rfl rfl rfl ?_
  refine Ex_alen (n := 6) dX7_init_20 rfl (bq_at hr _ _ 1 _ rfl) (by omega) rfl ?_
  refine Ex_icmp_ge (t := 44) dX7_init_21 rfl rfl (by omega) (fun _ => ?_) (fun z => absurd z (by omega))
  refine Ex_aload_n dX7_init_44 rfl rfl ?_
  refine Ex_newB (a := r + 8) (zs := [(7, [.ref (r + 1), .null, .int (i32 0), .int (i32 0), .int (i32 0)]), (23, [.ref (r + 2), .ref (r + 3), .ref (r + 4), .ref (r + 5), .ref (r + 6), .ref (r + 7)]), pcell p 0 0 0, pcell p 0 0 0, pcell p 0 0 0, pcell p 0 0 0, pcell p 0 0 0, pcell p 0 0 0, (5, [.null, .int (i32 0), .int (i32 0), .int (i32 0)])]) (t2 := s + 34) hr dX7_init_45 rfl rfl rfl rfl rfl rfl rfl ?_
  refine Ex_dup dX7_init_48 rfl rfl ?_
  refine Ex_aload_n dX7_init_49 rfl rfl ?_
  refine Ex_spec dX7_init_50 rfl rfl rfl rfl rfl rfl rfl rfl (Ex_post (x5_init (fs := []) (bq_at hr _ _ 8 _ rfl) (by omega)) ?_)
  rintro _ _ ⟨rfl, rfl⟩
  refine Ex_h (h2 := bld h0 (xs ++ [(7, [.ref (r + 1), .null, .int (i32 0), .int (i32 0), .int (i32 0)]), (23, [.ref (r + 2), .ref (r + 3), .ref (r + 4), .ref (r + 5), .ref (r + 6), .ref (r + 7)]), pcell p 0 0 0, pcell p 0 0 0, pcell p 0 0 0, pcell p 0 0 0, pcell p 0 0 0, pcell p 0 0 0, pcell p 0 0 0]) (s + 34)) (bq_put hr _ _ 8 _ _ rfl rfl) ?_
  refine Ex_putB (j := 0) (fs2 := [_, _, _, _, _]) (zs := [(7, [.ref (r + 1), .ref (r + 8), .int (i32 0), .int (i32 0), .int (i32 0)]), (23, [.ref (r + 2), .ref (r + 3), .ref (r + 4), .ref (r + 5), .ref (r + 6), .ref (r + 7)]), pcell p 0 0 0, pcell p 0 0 0, pcell p 0 0 0, pcell p 0 0 0, pcell p 0 0 0, pcell p 0 0 0, pcell p 0 0 0]) hr hB dX7_init_53 rfl rfl rfl rfl rfl rfl rfl rfl rfl rfl rfl ?_
  refine Ex_vret dX7_init_56 rfl ?_
  exact ⟨rfl, rfl⟩
