/-! Rail: changes (by program: wip/whole/spec_d.py) -/
theorem psT_0 {n c : Nat} {v : Int} {T : Nat → Int} (h1 : ¬ 0 < c) (h2 : ¬ c + 1 < n) : ∀ j, j < n → psT n c v T j = T j := by
  intro j hj; unfold psT; rw [if_neg (by omega)]
theorem psT_1 {n c : Nat} {v : Int} {T : Nat → Int} (h1 : 0 < c) (h2 : ¬ c + 1 < n) : ∀ j, j < n → psT n c v T j = fu T (c - 1) (sp_cl (T (c - 1) + v)) j := by
  intro j hj; unfold psT fu
  by_cases e : j = c - 1
  · subst e; rw [if_pos (by omega), if_pos rfl]
  · rw [if_neg (by omega), if_neg e]
theorem psT_2 {n c : Nat} {v : Int} {T : Nat → Int} (h1 : ¬ 0 < c) (h2 : c + 1 < n) : ∀ j, j < n → psT n c v T j = fu T (c + 1) (sp_cl (T (c + 1) + v)) j := by
  intro j hj; unfold psT fu
  by_cases e : j = c + 1
  · subst e; rw [if_pos (by omega), if_pos rfl]
  · rw [if_neg (by omega), if_neg e]
theorem psT_3 {n c : Nat} {v : Int} {T : Nat → Int} (h1 : 0 < c) (h2 : c + 1 < n) : ∀ j, j < n → psT n c v T j = fu (fu T (c - 1) (sp_cl (T (c - 1) + v))) (c + 1) (sp_cl (T (c + 1) + v)) j := by
  intro j hj; unfold psT fu
  by_cases e : j = c + 1
  · subst e; rw [if_pos (by omega), if_pos rfl]
  · by_cases e2 : j = c - 1
    · subst e2; rw [if_pos (by omega), if_neg e, if_pos rfl]
    · rw [if_neg (by omega), if_neg e, if_neg e2]
theorem x7_passOn {E : am_E} {d : Nat} {h : Hp} {r n : Nat} {m tu : Int} {kr : Nat → Nat} {T S C : Nat → Int} {c : Nat} {v : Int}  (R : RailAt h r n m tu kr T S C) (hg : Rng n T S C) (hB : E.2 ≤ r) (hc : c < n) (hv : -100 ≤ v ∧ v ≤ 100)  : Ex E (d + 2) mX7_passOn 0 [.ref r, .int (i32 (c : Int)), .int (i32 v)] [] h (fun r1 h1 => r1 = none ∧ RailAt h1 r n m tu kr (psT n c v T) S C ∧ Fr h h1 r (r + 9)) := by
  obtain ⟨hr, hA, hP, hG, hn6⟩ := id R
  by_cases q1 : 0 < c <;> by_cases q2 : c + 1 < n
  · refine Ex_aload_n dX7_passOn_0 rfl rfl ?_
    refine Ex_iload_n dX7_passOn_1 rfl rfl ?_
    refine Ex_iconst dX7_passOn_2 rfl ?_
    refine Ex_isub dX7_passOn_3 rfl ?_
    refine Ex_inv 2 dX7_passOn_4 rfl rfl (Or.inl rfl) rfl rfl rfl rfl (by first | exact hr | exact hA | exact hr2 | exact hA2) rfl rfl rfl (Ex_post (x7_has R (by omega)) ?_)
    rintro _ _ ⟨rfl, e0⟩
    obtain rfl := Eq.symm e0
    refine Ex_if_eq (t := 22) dX7_passOn_7 rfl rfl (by omega) (fun c7 => absurd c7 (by omega)) (fun c7 => ?_)
    refine Ex_aload_n dX7_passOn_10 rfl rfl ?_
    refine Ex_getf dX7_passOn_11 rfl (by first | exact hr | exact hA | exact hr2 | exact hA2) rfl rfl rfl ?_
    refine Ex_iload_n dX7_passOn_14 rfl rfl ?_
    refine Ex_iconst dX7_passOn_15 rfl ?_
    refine Ex_isub dX7_passOn_16 rfl ?_
    refine Ex_aald dX7_passOn_17 rfl (by first | exact hr | exact hA | exact hr2 | exact hA2) (by omega) (by omega) (by have e := rarr_get (r := r) (c := c - 1) (by omega); rw [show (((c - 1 : Nat) : Nat) : Int) = (c : Int) - 1 by omega] at e; exact e) ?_
    refine Ex_iload_n dX7_passOn_18 rfl rfl ?_
    refine Ex_inv 2 dX7_passOn_19 rfl rfl (Or.inl rfl) rfl rfl rfl rfl (hP (c - 1) (by omega)) rfl rfl rfl (Ex_post (x5_gain (hP (c - 1) (by omega)) (by omega) (hg (c - 1) (by omega)).1 hv) ?_)
    rintro _ _ ⟨rfl, rfl⟩
    have R2 := R.pup1 (i := c - 1) (t := sp_cl (T (c - 1) + v)) (s := S (c - 1)) (c := C (c - 1)) (by omega)
    rw [fu_same, fu_same] at R2
    obtain ⟨hr2, hA2, hP2, hG2, -⟩ := id R2
    have f1 : Fr h _ r (r + 9) := Fr.put (h := h) (a := r + 2 + (c - 1)) (pcell (kr (c - 1)) (sp_cl (T (c - 1) + v)) (S (c - 1)) (C (c - 1))) (by omega)
    refine Ex_aload_n dX7_passOn_22 rfl rfl ?_
    refine Ex_iload_n dX7_passOn_23 rfl rfl ?_
    refine Ex_iconst dX7_passOn_24 rfl ?_
    refine Ex_iadd dX7_passOn_25 rfl ?_
    refine Ex_inv 2 dX7_passOn_26 rfl rfl (Or.inl rfl) rfl rfl rfl rfl (by first | exact hr | exact hA | exact hr2 | exact hA2) rfl rfl rfl (Ex_post (x7_has R2 (by omega)) ?_)
    rintro _ _ ⟨rfl, e0⟩
    obtain rfl := Eq.symm e0
    refine Ex_if_eq (t := 44) dX7_passOn_29 rfl rfl (by omega) (fun c29 => absurd c29 (by omega)) (fun c29 => ?_)
    refine Ex_aload_n dX7_passOn_32 rfl rfl ?_
    refine Ex_getf dX7_passOn_33 rfl (by first | exact hr | exact hA | exact hr2 | exact hA2) rfl rfl rfl ?_
    refine Ex_iload_n dX7_passOn_36 rfl rfl ?_
    refine Ex_iconst dX7_passOn_37 rfl ?_
    refine Ex_iadd dX7_passOn_38 rfl ?_
    refine Ex_aald dX7_passOn_39 rfl (by first | exact hr | exact hA | exact hr2 | exact hA2) (by omega) (by omega) (by have e := rarr_get (r := r) (c := c + 1) (by omega); exact e) ?_
    refine Ex_iload_n dX7_passOn_40 rfl rfl ?_
    refine Ex_inv 2 dX7_passOn_41 rfl rfl (Or.inl rfl) rfl rfl rfl rfl (hP2 (c + 1) (by omega)) rfl rfl rfl (Ex_post (x5_gain (by have e := hP2 (c + 1) (by omega); rw [fu_ne (by omega)] at e; exact e) (by omega) (hg (c + 1) (by omega)).1 hv) ?_)
    rintro _ _ ⟨rfl, rfl⟩
    refine Ex_vret dX7_passOn_44 rfl ?_
    have R3 := R2.pup1 (i := c + 1) (t := sp_cl (T (c + 1) + v)) (s := S (c + 1)) (c := C (c + 1)) (by omega)
    rw [fu_same, fu_same] at R3
    exact ⟨rfl, R3.cg rfl (fun i hi => ⟨rfl, (psT_3 q1 q2 i hi).symm, rfl, rfl⟩), f1.trans (Fr.put _ (by omega))⟩
  · refine Ex_aload_n dX7_passOn_0 rfl rfl ?_
    refine Ex_iload_n dX7_passOn_1 rfl rfl ?_
    refine Ex_iconst dX7_passOn_2 rfl ?_
    refine Ex_isub dX7_passOn_3 rfl ?_
    refine Ex_inv 2 dX7_passOn_4 rfl rfl (Or.inl rfl) rfl rfl rfl rfl (by first | exact hr | exact hA | exact hr2 | exact hA2) rfl rfl rfl (Ex_post (x7_has R (by omega)) ?_)
    rintro _ _ ⟨rfl, e0⟩
    obtain rfl := Eq.symm e0
    refine Ex_if_eq (t := 22) dX7_passOn_7 rfl rfl (by omega) (fun c7 => absurd c7 (by omega)) (fun c7 => ?_)
    refine Ex_aload_n dX7_passOn_10 rfl rfl ?_
    refine Ex_getf dX7_passOn_11 rfl (by first | exact hr | exact hA | exact hr2 | exact hA2) rfl rfl rfl ?_
    refine Ex_iload_n dX7_passOn_14 rfl rfl ?_
    refine Ex_iconst dX7_passOn_15 rfl ?_
    refine Ex_isub dX7_passOn_16 rfl ?_
    refine Ex_aald dX7_passOn_17 rfl (by first | exact hr | exact hA | exact hr2 | exact hA2) (by omega) (by omega) (by have e := rarr_get (r := r) (c := c - 1) (by omega); rw [show (((c - 1 : Nat) : Nat) : Int) = (c : Int) - 1 by omega] at e; exact e) ?_
    refine Ex_iload_n dX7_passOn_18 rfl rfl ?_
    refine Ex_inv 2 dX7_passOn_19 rfl rfl (Or.inl rfl) rfl rfl rfl rfl (hP (c - 1) (by omega)) rfl rfl rfl (Ex_post (x5_gain (hP (c - 1) (by omega)) (by omega) (hg (c - 1) (by omega)).1 hv) ?_)
    rintro _ _ ⟨rfl, rfl⟩
    have R2 := R.pup1 (i := c - 1) (t := sp_cl (T (c - 1) + v)) (s := S (c - 1)) (c := C (c - 1)) (by omega)
    rw [fu_same, fu_same] at R2
    obtain ⟨hr2, hA2, hP2, hG2, -⟩ := id R2
    have f1 : Fr h _ r (r + 9) := Fr.put (h := h) (a := r + 2 + (c - 1)) (pcell (kr (c - 1)) (sp_cl (T (c - 1) + v)) (S (c - 1)) (C (c - 1))) (by omega)
    refine Ex_aload_n dX7_passOn_22 rfl rfl ?_
    refine Ex_iload_n dX7_passOn_23 rfl rfl ?_
    refine Ex_iconst dX7_passOn_24 rfl ?_
    refine Ex_iadd dX7_passOn_25 rfl ?_
    refine Ex_inv 2 dX7_passOn_26 rfl rfl (Or.inl rfl) rfl rfl rfl rfl (by first | exact hr | exact hA | exact hr2 | exact hA2) rfl rfl rfl (Ex_post (x7_has R2 (by omega)) ?_)
    rintro _ _ ⟨rfl, e0⟩
    obtain rfl := Eq.symm e0
    refine Ex_if_eq (t := 44) dX7_passOn_29 rfl rfl (by omega) (fun c29 => ?_) (fun c29 => absurd c29 (by omega))
    refine Ex_vret dX7_passOn_44 rfl ?_
    exact ⟨rfl, R2.cg rfl (fun i hi => ⟨rfl, (psT_1 q1 q2 i hi).symm, rfl, rfl⟩), f1⟩
  · refine Ex_aload_n dX7_passOn_0 rfl rfl ?_
    refine Ex_iload_n dX7_passOn_1 rfl rfl ?_
    refine Ex_iconst dX7_passOn_2 rfl ?_
    refine Ex_isub dX7_passOn_3 rfl ?_
    refine Ex_inv 2 dX7_passOn_4 rfl rfl (Or.inl rfl) rfl rfl rfl rfl (by first | exact hr | exact hA | exact hr2 | exact hA2) rfl rfl rfl (Ex_post (x7_has R (by omega)) ?_)
    rintro _ _ ⟨rfl, e0⟩
    obtain rfl := Eq.symm e0
    refine Ex_if_eq (t := 22) dX7_passOn_7 rfl rfl (by omega) (fun c7 => ?_) (fun c7 => absurd c7 (by omega))
    refine Ex_aload_n dX7_passOn_22 rfl rfl ?_
    refine Ex_iload_n dX7_passOn_23 rfl rfl ?_
    refine Ex_iconst dX7_passOn_24 rfl ?_
    refine Ex_iadd dX7_passOn_25 rfl ?_
    refine Ex_inv 2 dX7_passOn_26 rfl rfl (Or.inl rfl) rfl rfl rfl rfl (by first | exact hr | exact hA | exact hr2 | exact hA2) rfl rfl rfl (Ex_post (x7_has R (by omega)) ?_)
    rintro _ _ ⟨rfl, e0⟩
    obtain rfl := Eq.symm e0
    refine Ex_if_eq (t := 44) dX7_passOn_29 rfl rfl (by omega) (fun c29 => absurd c29 (by omega)) (fun c29 => ?_)
    refine Ex_aload_n dX7_passOn_32 rfl rfl ?_
    refine Ex_getf dX7_passOn_33 rfl (by first | exact hr | exact hA | exact hr2 | exact hA2) rfl rfl rfl ?_
    refine Ex_iload_n dX7_passOn_36 rfl rfl ?_
    refine Ex_iconst dX7_passOn_37 rfl ?_
    refine Ex_iadd dX7_passOn_38 rfl ?_
    refine Ex_aald dX7_passOn_39 rfl (by first | exact hr | exact hA | exact hr2 | exact hA2) (by omega) (by omega) (by have e := rarr_get (r := r) (c := c + 1) (by omega); exact e) ?_
    refine Ex_iload_n dX7_passOn_40 rfl rfl ?_
    refine Ex_inv 2 dX7_passOn_41 rfl rfl (Or.inl rfl) rfl rfl rfl rfl (hP (c + 1) (by omega)) rfl rfl rfl (Ex_post (x5_gain (hP (c + 1) (by omega)) (by omega) (hg (c + 1) (by omega)).1 hv) ?_)
    rintro _ _ ⟨rfl, rfl⟩
    refine Ex_vret dX7_passOn_44 rfl ?_
    have R3 := R.pup1 (i := c + 1) (t := sp_cl (T (c + 1) + v)) (s := S (c + 1)) (c := C (c + 1)) (by omega)
    rw [fu_same, fu_same] at R3
    exact ⟨rfl, R3.cg rfl (fun i hi => ⟨rfl, (psT_2 q1 q2 i hi).symm, rfl, rfl⟩), Fr.put _ (by omega)⟩
  · refine Ex_aload_n dX7_passOn_0 rfl rfl ?_
    refine Ex_iload_n dX7_passOn_1 rfl rfl ?_
    refine Ex_iconst dX7_passOn_2 rfl ?_
    refine Ex_isub dX7_passOn_3 rfl ?_
    refine Ex_inv 2 dX7_passOn_4 rfl rfl (Or.inl rfl) rfl rfl rfl rfl (by first | exact hr | exact hA | exact hr2 | exact hA2) rfl rfl rfl (Ex_post (x7_has R (by omega)) ?_)
    rintro _ _ ⟨rfl, e0⟩
    obtain rfl := Eq.symm e0
    refine Ex_if_eq (t := 22) dX7_passOn_7 rfl rfl (by omega) (fun c7 => ?_) (fun c7 => absurd c7 (by omega))
    refine Ex_aload_n dX7_passOn_22 rfl rfl ?_
    refine Ex_iload_n dX7_passOn_23 rfl rfl ?_
    refine Ex_iconst dX7_passOn_24 rfl ?_
    refine Ex_iadd dX7_passOn_25 rfl ?_
    refine Ex_inv 2 dX7_passOn_26 rfl rfl (Or.inl rfl) rfl rfl rfl rfl (by first | exact hr | exact hA | exact hr2 | exact hA2) rfl rfl rfl (Ex_post (x7_has R (by omega)) ?_)
    rintro _ _ ⟨rfl, e0⟩
    obtain rfl := Eq.symm e0
    refine Ex_if_eq (t := 44) dX7_passOn_29 rfl rfl (by omega) (fun c29 => ?_) (fun c29 => absurd c29 (by omega))
    refine Ex_vret dX7_passOn_44 rfl ?_
    exact ⟨rfl, R.cg rfl (fun i hi => ⟨rfl, (psT_0 q1 q2 i hi).symm, rfl, rfl⟩), Fr.rf _ _ _⟩
theorem br_s {w : Int} {c j : Nat} {T S C : Nat → Int} : fu (brT w c T) c (sp_cl (T c - w)) j = brT w (c + 1) T j ∧ fu (brS w c S) c (if S c = 7 then 7 else max 0 (S c - w / 3)) j = brS w (c + 1) S j ∧ fu (brC c C) c 0 j = brC (c + 1) C j := by
  unfold fu brT brS brC
  by_cases e : j = c
  · subst e; simp
  · by_cases e2 : j < c
    · simp [e, e2, show j < c + 1 by omega]
    · simp [e, e2, show ¬ j < c + 1 by omega]
theorem x7_pause_l {E : am_E} {d : Nat} {r n : Nat} {m tu w : Int} {kr : Nat → Nat} {T S C : Nat → Int}  (hg : Rng n T S C) (hB : E.2 ≤ r) (hw : 0 ≤ w ∧ w ≤ 9)  : ∀ (k : Nat) (c : Nat) (h : Hp), c + k = n → RailAt h r n m tu kr (brT w c T) (brS w c S) (brC c C) → Ex E (d + 3) mX7_pause 2 [.ref r, .int (i32 w), .int (i32 (c : Int))] [] h (fun r1 h1 => r1 = none ∧ RailAt h1 r n m tu kr (brT w n T) (brS w n S) (brC n C) ∧ Fr h h1 r (r + 9)) := by
  intro k
  induction k with
  | zero =>
    intro c h hk R
    obtain ⟨hr, hA, hP, hG, hn6⟩ := id R
    refine Ex_iload_n dX7_pause_2 rfl rfl ?_
    refine Ex_aload_n dX7_pause_3 rfl rfl ?_
    refine Ex_getf dX7_pause_4 rfl (by first | exact hr | exact hA | exact hP _ (by omega)) rfl rfl rfl ?_
    refine Ex_icmp_ge (t := 26) dX7_pause_7 rfl rfl (by omega) (fun c7 => ?_) (fun c7 => absurd c7 (by omega))
    refine Ex_vret dX7_pause_26 rfl ?_
    obtain rfl : c = n := by omega
    exact ⟨rfl, R, Fr.rf _ _ _⟩
  | succ k ih =>
    intro c h hk R
    obtain ⟨hr, hA, hP, hG, hn6⟩ := id R
    have hgc := hg c (by omega)
    have e1 : brT w c T c = T c := by unfold brT; rw [if_neg (by omega)]
    have e2 : brS w c S c = S c := by unfold brS; rw [if_neg (by omega)]
    have hPc := hP c (by omega)
    rw [e1, e2] at hPc
    refine Ex_iload_n dX7_pause_2 rfl rfl ?_
    refine Ex_aload_n dX7_pause_3 rfl rfl ?_
    refine Ex_getf dX7_pause_4 rfl (by first | exact hr | exact hA | exact hP _ (by omega)) rfl rfl rfl ?_
    refine Ex_icmp_ge (t := 26) dX7_pause_7 rfl rfl (by omega) (fun c7 => absurd c7 (by omega)) (fun c7 => ?_)
    refine Ex_aload_n dX7_pause_10 rfl rfl ?_
    refine Ex_getf dX7_pause_11 rfl (by first | exact hr | exact hA | exact hP _ (by omega)) rfl rfl rfl ?_
    refine Ex_iload_n dX7_pause_14 rfl rfl ?_
    refine Ex_aald dX7_pause_15 rfl (by first | exact hr | exact hA | exact hP _ (by omega)) (by omega) (by omega) (rarr_get (by omega)) ?_
    refine Ex_iload_n dX7_pause_16 rfl rfl ?_
    refine Ex_inv 2 dX7_pause_17 rfl rfl (Or.inl rfl) rfl rfl rfl rfl hPc rfl rfl rfl (Ex_post (x5_pauses hPc (by omega) hgc.1 hgc.2.1 hw) ?_)
    rintro _ _ ⟨rfl, rfl⟩
    refine Ex_iinc (L2 := [_, _, _]) dX7_pause_20 rfl rfl rfl ?_
    refine Ex_goto (t := 2) dX7_pause_23 rfl ?_
    have R2 := R.pup1 (i := c) (t := sp_cl (T c - w)) (s := if S c = 7 then 7 else max 0 (S c - w / 3)) (c := 0) (by omega)
    refine Ex_post (ih (c + 1) _ (by omega) (R2.cg rfl (fun i hi => ⟨rfl, br_s (S := S) (C := C) |>.1, (br_s (T := T) (C := C)).2.1, (br_s (w := w) (T := T) (S := S)).2.2⟩))) ?_
    rintro _ _ ⟨rfl, h2, h3⟩
    exact ⟨rfl, h2, (Fr.put _ (by omega)).trans h3⟩

theorem x7_pause {E : am_E} {d : Nat} {h : Hp} {r n : Nat} {m tu : Int} {kr : Nat → Nat} {T S C : Nat → Int} {w : Int}  (R : RailAt h r n m tu kr T S C) (hg : Rng n T S C) (hB : E.2 ≤ r) (hw : 0 ≤ w ∧ w ≤ 9)  : Ex E (d + 3) mX7_pause 0 [.ref r, .int (i32 w), .retAddr 0] [] h (fun r1 h1 => r1 = none ∧ RailAt h1 r n m tu kr (brT w n T) (brS w n S) (brC n C) ∧ Fr h h1 r (r + 9)) := by
  refine Ex_iconst dX7_pause_0 rfl ?_
  refine Ex_istore_n (L2 := [_, _, _]) dX7_pause_1 rfl rfl rfl ?_
  exact x7_pause_l hg hB hw n 0 h (by omega) (R.cg rfl (fun i hi => ⟨rfl, by unfold brT; rw [if_neg (by omega)], by unfold brS; rw [if_neg (by omega)], by unfold brC; rw [if_neg (by omega)]⟩))

theorem x7_add {E : am_E} {d : Nat} {h : Hp} {r n : Nat} {m tu : Int} {kr : Nat → Nat} {T S C : Nat → Int} {b : Nat} {t : Int}  (R : RailAt h r n m tu kr T S C) (hB : E.2 ≤ r) (hn : n < 6)  : Ex E d mX7_add 0 [.ref r, .ref b, .int (i32 t), .retAddr 0] [] h (fun r1 h1 => r1 = none ∧ RailAt h1 r (n + 1) m tu (fuN kr n b) (fu T n t) (fu S n 0) (fu C n 0) ∧ Fr h h1 r (r + 9)) := by
  obtain ⟨hr, hA, hP, hG, hn6⟩ := id R
  obtain ⟨gk, gt, gs, gc, hgn⟩ := hG n (by omega)
  refine Ex_aload_n dX7_add_0 rfl rfl ?_
  refine Ex_getf dX7_add_1 rfl (by first | exact hr | exact hA | exact hgn | exact am_pg1 _ _ _ | (rw [am_pg2 (by omega)]; first | exact hr | exact hA)) rfl rfl rfl ?_
  refine Ex_aload_n dX7_add_4 rfl rfl ?_
  refine Ex_getf dX7_add_5 rfl (by first | exact hr | exact hA | exact hgn | exact am_pg1 _ _ _ | (rw [am_pg2 (by omega)]; first | exact hr | exact hA)) rfl rfl rfl ?_
  refine Ex_aald dX7_add_8 rfl (by first | exact hr | exact hA | exact hgn | exact am_pg1 _ _ _ | (rw [am_pg2 (by omega)]; first | exact hr | exact hA)) (by omega) (by omega) (rarr_get (by omega)) ?_
  refine Ex_astore_n (L2 := [_, _, _, _]) dX7_add_9 rfl rfl rfl ?_
  refine Ex_aload_n dX7_add_10 rfl rfl ?_
  refine Ex_aload_n dX7_add_11 rfl rfl ?_
  refine Ex_putf (fs2 := [_, _, _, _]) dX7_add_12 rfl (by first | exact hr | exact hA | exact hgn | exact am_pg1 _ _ _ | (rw [am_pg2 (by omega)]; first | exact hr | exact hA)) rfl rfl rfl rfl rfl (by omega) rfl ?_
  try rw [am_put2]
  refine Ex_aload_n dX7_add_15 rfl rfl ?_
  refine Ex_iload_n dX7_add_16 rfl rfl ?_
  refine Ex_putf (fs2 := [_, _, _, _]) dX7_add_17 rfl (by first | exact hr | exact hA | exact hgn | exact am_pg1 _ _ _ | (rw [am_pg2 (by omega)]; first | exact hr | exact hA)) rfl rfl rfl rfl rfl (by omega) rfl ?_
  try rw [am_put2]
  refine Ex_aload_n dX7_add_20 rfl rfl ?_
  refine Ex_iconst dX7_add_21 rfl ?_
  refine Ex_putf (fs2 := [_, _, _, _]) dX7_add_22 rfl (by first | exact hr | exact hA | exact hgn | exact am_pg1 _ _ _ | (rw [am_pg2 (by omega)]; first | exact hr | exact hA)) rfl rfl rfl rfl rfl (by omega) rfl ?_
  try rw [am_put2]
  refine Ex_aload_n dX7_add_25 rfl rfl ?_
  refine Ex_iconst dX7_add_26 rfl ?_
  refine Ex_putf (fs2 := [_, _, _, _]) dX7_add_27 rfl (by first | exact hr | exact hA | exact hgn | exact am_pg1 _ _ _ | (rw [am_pg2 (by omega)]; first | exact hr | exact hA)) rfl rfl rfl rfl rfl (by omega) rfl ?_
  try rw [am_put2]
  refine Ex_aload_n dX7_add_30 rfl rfl ?_
  refine Ex_dup dX7_add_31 rfl rfl ?_
  refine Ex_getf dX7_add_32 rfl (by first | exact hr | exact hA | exact hgn | exact am_pg1 _ _ _ | (rw [am_pg2 (by omega)]; first | exact hr | exact hA)) rfl rfl rfl ?_
  refine Ex_iconst dX7_add_35 rfl ?_
  refine Ex_iadd dX7_add_36 rfl ?_
  refine Ex_putf (fs2 := [_, _, _, _, _]) dX7_add_37 rfl (by first | exact hr | exact hA | exact hgn | exact am_pg1 _ _ _ | (rw [am_pg2 (by omega)]; first | exact hr | exact hA)) rfl rfl rfl rfl rfl (by omega) rfl ?_
  try rw [am_put2]
  refine Ex_vret dX7_add_40 rfl ?_
  have R2 := R.pup (i := n) (k2 := b) (t := t) (s := 0) (c := 0) (by omega)
  obtain ⟨a1, a2, a3, a4, a5⟩ := R2
  refine ⟨rfl, ⟨am_pg1 _ _ _, (am_pg2 (by omega)).trans a2, fun j hj => ?_, fun j hj => ?_, by omega⟩, (Fr.put _ (by omega)).trans (Fr.put _ (by omega))⟩
  · by_cases e : j = n
    · subst e
      rw [am_pg2 (by omega), am_pg1]
      simp [fuN, fu]
    · exact (am_pg2 (by omega)).trans (a3 j (by omega))
  · obtain ⟨k, t1, s1, c1, e⟩ := a4 j hj
    exact ⟨k, t1, s1, c1, (am_pg2 (by omega)).trans e⟩
def swN (f : Nat → Nat) (a b : Nat) : Nat → Nat := fun j => if j = b then f a else if j = a then f b else f j
def sw (f : Nat → Int) (a b : Nat) : Nat → Int := fun j => if j = b then f a else if j = a then f b else f j

theorem x7_swap {E : am_E} {d : Nat} {h : Hp} {r n : Nat} {m tu : Int} {kr : Nat → Nat} {T S C : Nat → Int} {a b : Nat}  (R : RailAt h r n m tu kr T S C) (hB : E.2 ≤ r) (ha : a < n) (hb : b < n) (hab : a ≠ b)  : Ex E (d + 1) mX7_swap 0 [.ref r, .int (i32 (a : Int)), .int (i32 (b : Int))] [] h (fun r1 h1 => r1 = none ∧ RailAt h1 r n m tu (swN kr a b) (sw T a b) (sw S a b) (sw C a b) ∧ Fr h h1 r (r + 9)) := by
  obtain ⟨hr, hA, hP, hG, hn6⟩ := id R
  obtain ⟨gk, gt, gs, gc, hgn⟩ := hG 6 (by omega)
  have hgn : h.1 (r + 8) = some (pcell gk gt gs gc) := hgn
  have hPa := hP a ha
  have hPb := hP b hb
  refine Ex_aload_n dX7_swap_0 rfl rfl ?_
  refine Ex_getf dX7_swap_1 rfl (by first | exact hr | exact hA | (rw [am_pg2 (by omega)]; first | exact hr | exact hA) | (rw [am_pg2 (by omega), am_pg2 (by omega)]; first | exact hr | exact hA)) rfl rfl rfl ?_
  refine Ex_aload_n dX7_swap_4 rfl rfl ?_
  refine Ex_getf dX7_swap_5 rfl (by first | exact hr | exact hA | (rw [am_pg2 (by omega)]; first | exact hr | exact hA) | (rw [am_pg2 (by omega), am_pg2 (by omega)]; first | exact hr | exact hA)) rfl rfl rfl ?_
  refine Ex_iload_n dX7_swap_8 rfl rfl ?_
  refine Ex_aald dX7_swap_9 rfl (by first | exact hr | exact hA | (rw [am_pg2 (by omega)]; first | exact hr | exact hA) | (rw [am_pg2 (by omega), am_pg2 (by omega)]; first | exact hr | exact hA)) (by omega) (by omega) (rarr_get (by omega)) ?_
  refine Ex_inv 2 dX7_swap_10 rfl rfl (Or.inl rfl) rfl rfl rfl rfl hgn rfl rfl rfl (Ex_post (x5_setTo hgn hPa (by omega) (by omega)) ?_)
  rintro _ _ ⟨rfl, rfl⟩
  refine Ex_aload_n dX7_swap_13 rfl rfl ?_
  refine Ex_getf dX7_swap_14 rfl (by first | exact hr | exact hA | (rw [am_pg2 (by omega)]; first | exact hr | exact hA) | (rw [am_pg2 (by omega), am_pg2 (by omega)]; first | exact hr | exact hA)) rfl rfl rfl ?_
  refine Ex_iload_n dX7_swap_17 rfl rfl ?_
  refine Ex_aald dX7_swap_18 rfl (by first | exact hr | exact hA | (rw [am_pg2 (by omega)]; first | exact hr | exact hA) | (rw [am_pg2 (by omega), am_pg2 (by omega)]; first | exact hr | exact hA)) (by omega) (by omega) (rarr_get (by omega)) ?_
  refine Ex_aload_n dX7_swap_19 rfl rfl ?_
  refine Ex_getf dX7_swap_20 rfl (by first | exact hr | exact hA | (rw [am_pg2 (by omega)]; first | exact hr | exact hA) | (rw [am_pg2 (by omega), am_pg2 (by omega)]; first | exact hr | exact hA)) rfl rfl rfl ?_
  refine Ex_iload_n dX7_swap_23 rfl rfl ?_
  refine Ex_aald dX7_swap_24 rfl (by first | exact hr | exact hA | (rw [am_pg2 (by omega)]; first | exact hr | exact hA) | (rw [am_pg2 (by omega), am_pg2 (by omega)]; first | exact hr | exact hA)) (by omega) (by omega) (rarr_get (by omega)) ?_
  refine Ex_inv 2 dX7_swap_25 rfl rfl (Or.inl rfl) rfl rfl rfl rfl ((am_pg2 (by omega)).trans hPa) rfl rfl rfl (Ex_post (x5_setTo (a := r + 2 + a) (b := r + 2 + b) ((am_pg2 (by omega)).trans hPa) ((am_pg2 (by omega)).trans hPb) (by omega) (by omega)) ?_)
  rintro _ _ ⟨rfl, rfl⟩
  refine Ex_aload_n dX7_swap_28 rfl rfl ?_
  refine Ex_getf dX7_swap_29 rfl (by first | exact hr | exact hA | (rw [am_pg2 (by omega)]; first | exact hr | exact hA) | (rw [am_pg2 (by omega), am_pg2 (by omega)]; first | exact hr | exact hA)) rfl rfl rfl ?_
  refine Ex_iload_n dX7_swap_32 rfl rfl ?_
  refine Ex_aald dX7_swap_33 rfl (by first | exact hr | exact hA | (rw [am_pg2 (by omega)]; first | exact hr | exact hA) | (rw [am_pg2 (by omega), am_pg2 (by omega)]; first | exact hr | exact hA)) (by omega) (by omega) (rarr_get (by omega)) ?_
  refine Ex_aload_n dX7_swap_34 rfl rfl ?_
  refine Ex_getf dX7_swap_35 rfl (by first | exact hr | exact hA | (rw [am_pg2 (by omega)]; first | exact hr | exact hA) | (rw [am_pg2 (by omega), am_pg2 (by omega)]; first | exact hr | exact hA)) rfl rfl rfl ?_
  refine Ex_inv 2 dX7_swap_38 rfl rfl (Or.inl rfl) rfl rfl rfl rfl ((am_pg2 (by omega)).trans ((am_pg2 (by omega)).trans hPb)) rfl rfl rfl (Ex_post (x5_setTo (a := r + 2 + b) (b := r + 8) ((am_pg2 (by omega)).trans ((am_pg2 (by omega)).trans hPb)) ((am_pg2 (by omega)).trans (am_pg1 _ _ _)) (by omega) (by omega)) ?_)
  rintro _ _ ⟨rfl, rfl⟩
  refine Ex_vret dX7_swap_41 rfl ?_
  have R2 := ((R.aside (k2 := kr a) (t := T a) (s := S a) (c := C a)).pup (i := a) (k2 := kr b) (t := T b) (s := S b) (c := C b) (by omega)).pup (i := b) (k2 := kr a) (t := T a) (s := S a) (c := C a) (by omega)
  exact ⟨rfl, R2.cg rfl (fun i hi => ⟨rfl, rfl, rfl, rfl⟩), ((Fr.put _ (by omega)).trans (Fr.put _ (by omega))).trans (Fr.put _ (by omega))⟩
theorem x7_setTo_l {E : am_E} {d : Nat} {r r2 n n2 : Nat} {m tu m2 tu2 : Int} {kr kr2 : Nat → Nat} {T S C T2 S2 C2 : Nat → Int}  (hB : E.2 ≤ r) (hap : r2 + 9 ≤ r ∨ r + 9 ≤ r2)  : ∀ (k : Nat) (c : Nat) (h : Hp), c + k = n2 → RailAt h r n m tu (mixN c kr2 kr) (mix c T2 T) (mix c S2 S) (mix c C2 C) → RailAt h r2 n2 m2 tu2 kr2 T2 S2 C2 → (∀ i, i < c → h.1 (r + 2 + i) = some (pcell (kr2 i) (T2 i) (S2 i) (C2 i))) → Ex E (d + 1) mX7_setTo 2 [.ref r, .ref r2, .int (i32 (c : Int))] [] h (fun r1 h1 => r1 = none ∧ RailAt h1 r n2 m2 0 kr2 T2 S2 C2 ∧ Fr h h1 r (r + 9)) := by
  intro k
  induction k with
  | zero =>
    intro c h hk R Q hC
    obtain ⟨hr, hA, hP, hG, hn6⟩ := id R
    obtain ⟨hr2, hA2, hP2, hG2, hn62⟩ := id Q
    refine Ex_iload_n dX7_setTo_2 rfl rfl ?_
    refine Ex_aload_n dX7_setTo_3 rfl rfl ?_
    refine Ex_getf dX7_setTo_4 rfl (by first | exact hr | exact hA | exact hr2 | exact hA2 | exact hgn | exact hP2 _ (by omega) | (first | exact am_pg1 _ _ _ | (rw [am_pg2 (by omega)]; first | exact hr2 | exact hA2))) rfl rfl rfl ?_
    refine Ex_icmp_ge (t := 31) dX7_setTo_7 rfl rfl (by omega) (fun c7 => ?_) (fun c7 => absurd c7 (by omega))
    refine Ex_aload_n dX7_setTo_31 rfl rfl ?_
    refine Ex_aload_n dX7_setTo_32 rfl rfl ?_
    refine Ex_getf dX7_setTo_33 rfl (by first | exact hr | exact hA | exact hr2 | exact hA2 | exact hgn | exact hP2 _ (by omega) | (first | exact am_pg1 _ _ _ | (rw [am_pg2 (by omega)]; first | exact hr2 | exact hA2))) rfl rfl rfl ?_
    refine Ex_putf (fs2 := [_, _, _, _, _]) dX7_setTo_36 rfl (by first | exact hr | exact hA | exact hr2 | exact hA2 | exact hgn | exact hP2 _ (by omega) | (first | exact am_pg1 _ _ _ | (rw [am_pg2 (by omega)]; first | exact hr2 | exact hA2))) rfl rfl rfl rfl rfl (by omega) rfl ?_
    try rw [am_put2]
    refine Ex_aload_n dX7_setTo_39 rfl rfl ?_
    refine Ex_aload_n dX7_setTo_40 rfl rfl ?_
    refine Ex_getf dX7_setTo_41 rfl (by first | exact hr | exact hA | exact hr2 | exact hA2 | exact hgn | exact hP2 _ (by omega) | (first | exact am_pg1 _ _ _ | (rw [am_pg2 (by omega)]; first | exact hr2 | exact hA2))) rfl rfl rfl ?_
    refine Ex_putf (fs2 := [_, _, _, _, _]) dX7_setTo_44 rfl (by first | exact hr | exact hA | exact hr2 | exact hA2 | exact hgn | exact hP2 _ (by omega) | (first | exact am_pg1 _ _ _ | (rw [am_pg2 (by omega)]; first | exact hr2 | exact hA2))) rfl rfl rfl rfl rfl (by omega) rfl ?_
    try rw [am_put2]
    refine Ex_aload_n dX7_setTo_47 rfl rfl ?_
    refine Ex_iconst dX7_setTo_48 rfl ?_
    refine Ex_putf (fs2 := [_, _, _, _, _]) dX7_setTo_49 rfl (by first | exact hr | exact hA | exact hr2 | exact hA2 | exact hgn | exact hP2 _ (by omega) | (first | exact am_pg1 _ _ _ | (rw [am_pg2 (by omega)]; first | exact hr2 | exact hA2))) rfl rfl rfl rfl rfl (by omega) rfl ?_
    try rw [am_put2]
    refine Ex_vret dX7_setTo_52 rfl ?_
    obtain rfl : c = n2 := by omega
    refine ⟨rfl, ⟨am_pg1 _ _ _, (am_pg2 (by omega)).trans hA, fun j hj => (am_pg2 (by omega)).trans (hC j hj), fun j hj => ?_, hn62⟩, Fr.put _ (by omega)⟩
    obtain ⟨k, t1, s1, c1, e⟩ := hG j hj
    exact ⟨k, t1, s1, c1, (am_pg2 (by omega)).trans e⟩
  | succ k ih =>
    intro c h hk R Q hC
    obtain ⟨hr, hA, hP, hG, hn6⟩ := id R
    obtain ⟨hr2, hA2, hP2, hG2, hn62⟩ := id Q
    obtain ⟨gk, gt, gs, gc, hgn⟩ := hG c (by omega)
    refine Ex_iload_n dX7_setTo_2 rfl rfl ?_
    refine Ex_aload_n dX7_setTo_3 rfl rfl ?_
    refine Ex_getf dX7_setTo_4 rfl (by first | exact hr | exact hA | exact hr2 | exact hA2 | exact hgn | exact hP2 _ (by omega) | (first | exact am_pg1 _ _ _ | (rw [am_pg2 (by omega)]; first | exact hr2 | exact hA2))) rfl rfl rfl ?_
    refine Ex_icmp_ge (t := 31) dX7_setTo_7 rfl rfl (by omega) (fun c7 => absurd c7 (by omega)) (fun c7 => ?_)
    refine Ex_aload_n dX7_setTo_10 rfl rfl ?_
    refine Ex_getf dX7_setTo_11 rfl (by first | exact hr | exact hA | exact hr2 | exact hA2 | exact hgn | exact hP2 _ (by omega) | (first | exact am_pg1 _ _ _ | (rw [am_pg2 (by omega)]; first | exact hr2 | exact hA2))) rfl rfl rfl ?_
    refine Ex_iload_n dX7_setTo_14 rfl rfl ?_
    refine Ex_aald dX7_setTo_15 rfl (by first | exact hr | exact hA | exact hr2 | exact hA2 | exact hgn | exact hP2 _ (by omega) | (first | exact am_pg1 _ _ _ | (rw [am_pg2 (by omega)]; first | exact hr2 | exact hA2))) (by omega) (by omega) (rarr_get (by omega)) ?_
    refine Ex_aload_n dX7_setTo_16 rfl rfl ?_
    refine Ex_getf dX7_setTo_17 rfl (by first | exact hr | exact hA | exact hr2 | exact hA2 | exact hgn | exact hP2 _ (by omega) | (first | exact am_pg1 _ _ _ | (rw [am_pg2 (by omega)]; first | exact hr2 | exact hA2))) rfl rfl rfl ?_
    refine Ex_iload_n dX7_setTo_20 rfl rfl ?_
    refine Ex_aald dX7_setTo_21 rfl (by first | exact hr | exact hA | exact hr2 | exact hA2 | exact hgn | exact hP2 _ (by omega) | (first | exact am_pg1 _ _ _ | (rw [am_pg2 (by omega)]; first | exact hr2 | exact hA2))) (by omega) (by omega) (rarr_get (by omega)) ?_
    refine Ex_inv 2 dX7_setTo_22 rfl rfl (Or.inl rfl) rfl rfl rfl rfl hgn rfl rfl rfl (Ex_post (x5_setTo (a := r + 2 + c) (b := r2 + 2 + c) hgn (hP2 c (by omega)) (by omega) (by omega)) ?_)
    rintro _ _ ⟨rfl, rfl⟩
    refine Ex_iinc (L2 := [_, _, _]) dX7_setTo_25 rfl rfl rfl ?_
    refine Ex_goto (t := 2) dX7_setTo_28 rfl ?_
    have R2 := R.pup (i := c) (k2 := kr2 c) (t := T2 c) (s := S2 c) (c := C2 c) (by omega)
    refine Ex_post (ih (c + 1) _ (by omega) (R2.cg rfl (fun i hi => ?_)) (Q.fr (Fr.put (lo := r) (hi := r + 9) _ (by omega)) (by omega)) (fun i hi => ?_)) ?_
    · unfold fuN fu mixN mix
      by_cases e : i = c
      · subst e; simp
      · by_cases e2 : i < c
        · simp [e, e2, show i < c + 1 by omega]
        · simp [e, e2, show ¬ i < c + 1 by omega]
    · by_cases e : i = c
      · subst e; exact am_pg1 _ _ _
      · exact (am_pg2 (by omega)).trans (hC i (by omega))
    · rintro _ _ ⟨rfl, h2, h3⟩
      exact ⟨rfl, h2, (Fr.put _ (by omega)).trans h3⟩

theorem x7_setTo {E : am_E} {d : Nat} {h : Hp} {r r2 n n2 : Nat} {m tu m2 tu2 : Int} {kr kr2 : Nat → Nat} {T S C T2 S2 C2 : Nat → Int}  (R : RailAt h r n m tu kr T S C) (Q : RailAt h r2 n2 m2 tu2 kr2 T2 S2 C2) (hB : E.2 ≤ r) (hap : r2 + 9 ≤ r ∨ r + 9 ≤ r2)  : Ex E (d + 1) mX7_setTo 0 [.ref r, .ref r2, .retAddr 0] [] h (fun r1 h1 => r1 = none ∧ RailAt h1 r n2 m2 0 kr2 T2 S2 C2 ∧ Fr h h1 r (r + 9)) := by
  refine Ex_iconst dX7_setTo_0 rfl ?_
  refine Ex_istore_n (L2 := [_, _, _]) dX7_setTo_1 rfl rfl rfl ?_
  exact x7_setTo_l (T := T) (S := S) (C := C) (kr := kr) hB hap n2 0 h (by omega) (R.cg rfl (fun i hi => ⟨rfl, rfl, rfl, rfl⟩)) Q (fun i hi => absurd hi (by omega))
