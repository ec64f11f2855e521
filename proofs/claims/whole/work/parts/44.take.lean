/-! a MINUTE (by program: wip/whole/spec_e.py) -/
theorem sp_mt_r {k f way t s : Int} (hf : 0 ≤ f ∧ f ≤ 9) (ht : 0 ≤ t ∧ t ≤ 20) : 0 ≤ sp_mt k f way t s ∧ sp_mt k f way t s ≤ 20 := by
  have h1 := sp_holds_r (k := k) hf
  have h2 := sp_cl_r (t + sp_holds k f)
  have h3 := sp_cl_r (t - sp_fright k f)
  unfold sp_mt
  split
  · exact h2
  · split
    · omega
    · split
      · exact ht
      · exact h3
theorem sp_ms_r {k f way t s : Int} (hs : 0 ≤ s ∧ s < 7) : 0 ≤ sp_ms k f way t s ∧ sp_ms k f way t s ≤ 7 := by
  unfold sp_ms
  repeat' split
  all_goals omega
theorem psT_r {n c : Nat} {v : Int} {T : Nat → Int} {j : Nat} (h : 0 ≤ T j ∧ T j ≤ 20) : 0 ≤ psT n c v T j ∧ psT n c v T j ≤ 20 := by
  unfold psT
  split
  · exact sp_cl_r _
  · exact h
theorem mn_r {n c : Nat} {way : Int} {K F T S C : Nat → Int} (hg : Rng n T S C) (hF : ∀ i, i < n → 0 ≤ F i ∧ F i ≤ 9) (hc : c < n) (hs : S c < 7) : Rng n (mnT n c way K F T S) (mnS c way K F T S) C := by
  intro j hj
  have hgj := hg j hj
  have hgc := hg c hc
  have hm := sp_mt_r (k := K c) (way := way) (s := S c) (hF c hc) hgc.1
  have hms := sp_ms_r (k := K c) (f := F c) (way := way) (t := T c) (s := S c) ⟨hgc.2.1.1, hs⟩
  have hfu : 0 ≤ fu T c (sp_mt (K c) (F c) way (T c) (S c)) j ∧ fu T c (sp_mt (K c) (F c) way (T c) (S c)) j ≤ 20 := by
    unfold fu; split
    · exact hm
    · exact hgj.1
  refine ⟨?_, ?_, hgj.2.2⟩
  · unfold mnT
    split
    · unfold fu; split
      · exact sp_cl_r _
      · exact hgj.1
    · split
      · exact psT_r hfu
      · exact hfu
  · unfold mnS
    split
    · exact hgj.2.1
    · unfold fu; split
      · exact hms
      · exact hgj.2.1
theorem co_r {n c o2 : Nat} {K F T S C : Nat → Int} (hg : Rng n T S C) : Rng n (coT n c o2 K F S C T) S (coC n c o2 K F S C) := by
  intro j hj
  have hgj := hg j hj
  refine ⟨?_, hgj.2.1, ?_⟩
  · unfold coT; split
    · exact sp_cl_r _
    · exact hgj.1
  · unfold coC; split
    · split <;> omega
    · exact hgj.2.2
theorem min_r {n c : Nat} {way : Int} {K F T S C : Nat → Int} (hg : Rng n T S C) (hF : ∀ i, i < n → 0 ≤ F i ∧ F i ≤ 9) (hc : c < n) (hs : S c < 7) : Rng n (minT n c way K F T S C) (mnS c way K F T S) (minC n c way K F T S C) := co_r (mn_r hg hF hc hs)
theorem co_skip {n c i : Nat} {K F T S C : Nat → Int} (hq : i = c ∨ ¬ S i < 7) (j : Nat) : coT n c i K F S C T j = coT n c (i + 1) K F S C T j ∧ coC n c i K F S C j = coC n c (i + 1) K F S C j := by
  unfold coT coC
  by_cases e : j = i
  · subst e
    rcases hq with e | e
    · simp [e]
    · simp [e]
  · by_cases e2 : j < i
    · simp [e2, show j < i + 1 by omega]
    · simp [e2, show ¬ j < i + 1 by omega]
theorem co_step {n c i : Nat} {K F T S C : Nat → Int} (h1 : i ≠ c) (h2 : S i < 7) (j : Nat) : fu (coT n c i K F S C T) i (if sp_bears (K i) (F i) < min 20 (C i + 1) then sp_cl (T i - 1) else T i) j = coT n c (i + 1) K F S C T j ∧ fu (coC n c i K F S C) i (if sp_bears (K i) (F i) < min 20 (C i + 1) then 0 else min 20 (C i + 1)) j = coC n c (i + 1) K F S C j := by
  unfold fu coT coC
  by_cases e : j = i
  · subst e
    simp [h1, h2]
  · by_cases e2 : j < i
    · simp [e, e2, show j < i + 1 by omega]
    · simp [e, e2, show ¬ j < i + 1 by omega]
theorem x7_take_l {E : am_E} {d : Nat} {r n c p : Nat} {m tu way w : Int} {kr : Nat → Nat} {T S C K F : Nat → Int}  (hg : Rng n T S C) (hB : E.2 ≤ r) (hc : c < n) (hw : w = 0 ∨ w = 1)  : ∀ (k : Nat) (i : Nat) (h : Hp), i + k = n → RailAt h r n m tu kr (coT n c i K F S C T) S (coC n c i K F S C) → KOK h r (r + 9) n kr K F → Ex E (d + 4) mX7_take 70 [.ref r, .int (i32 (c : Int)), .int (i32 way), .ref p, .int (i32 w), .int (i32 (i : Int))] [] h (fun r1 h1 => r1 = some (.int (i32 w)) ∧ RailAt h1 r n (m + 1) tu kr (coT n c n K F S C T) S (coC n c n K F S C) ∧ Fr h h1 r (r + 9)) := by
  intro k
  induction k with
  | zero =>
    intro i h hk R kk
    obtain ⟨hr, hA, hP, hG, hn6⟩ := id R
    refine Ex_iload dX7_take_70 rfl rfl ?_
    refine Ex_aload_n dX7_take_72 rfl rfl ?_
    refine Ex_getf dX7_take_73 rfl (by first | exact hr | exact hA | exact hP _ (by omega)) rfl rfl rfl ?_
    refine Ex_icmp_ge (t := 114) dX7_take_76 rfl rfl (by omega) (fun c76 => ?_) (fun c76 => absurd c76 (by omega))
    refine Ex_aload_n dX7_take_114 rfl rfl ?_
    refine Ex_dup dX7_take_115 rfl rfl ?_
    refine Ex_getf dX7_take_116 rfl (by first | exact hr | exact hA | exact hP _ (by omega)) rfl rfl rfl ?_
    refine Ex_iconst dX7_take_119 rfl ?_
    refine Ex_iadd dX7_take_120 rfl ?_
    refine Ex_putf (fs2 := [_, _, _, _, _]) dX7_take_121 rfl (by first | exact hr | exact hA | exact hP _ (by omega)) rfl rfl rfl rfl rfl (by omega) rfl ?_
    try rw [am_put2]
    refine Ex_iload dX7_take_124 rfl rfl ?_
    refine Ex_iret dX7_take_126 rfl (by rcases hw with rfl | rfl <;> rfl) ?_
    obtain rfl : i = n := by omega
    exact ⟨rfl, R.own, Fr.put _ (by omega)⟩
  | succ k ih =>
    intro i h hk R kk
    obtain ⟨hr, hA, hP, hG, hn6⟩ := id R
    have hgo := hg i (by omega)
    have e1 : coT n c i K F S C T i = T i := by unfold coT; rw [if_neg (by omega)]
    have e2 : coC n c i K F S C i = C i := by unfold coC; rw [if_neg (by omega)]
    have hPo := hP i (by omega)
    rw [e1, e2] at hPo
    by_cases q1 : i = c
    rotate_left
    by_cases q2 : S i < 7
    rotate_left
    · refine Ex_iload dX7_take_70 rfl rfl ?_
      refine Ex_aload_n dX7_take_72 rfl rfl ?_
      refine Ex_getf dX7_take_73 rfl (by first | exact hr | exact hA | exact hP _ (by omega)) rfl rfl rfl ?_
      refine Ex_icmp_ge (t := 114) dX7_take_76 rfl rfl (by omega) (fun c76 => absurd c76 (by omega)) (fun c76 => ?_)
      refine Ex_iload dX7_take_79 rfl rfl ?_
      refine Ex_iload_n dX7_take_81 rfl rfl ?_
      refine Ex_icmp_eq (t := 108) dX7_take_82 rfl rfl (by omega) (fun c82 => absurd c82 (by omega)) (fun c82 => ?_)
      refine Ex_aload_n dX7_take_85 rfl rfl ?_
      refine Ex_getf dX7_take_86 rfl (by first | exact hr | exact hA | exact hP _ (by omega)) rfl rfl rfl ?_
      refine Ex_iload dX7_take_89 rfl rfl ?_
      refine Ex_aald dX7_take_91 rfl (by first | exact hr | exact hA | exact hP _ (by omega)) (by omega) (by omega) (rarr_get (by omega)) ?_
      refine Ex_inv 2 dX7_take_92 rfl rfl (Or.inl rfl) rfl rfl rfl rfl hPo rfl rfl rfl (Ex_post (x5_swims hPo hgo.2.1) ?_)
      rintro _ _ ⟨rfl, e0⟩
      obtain rfl := Eq.symm e0
      refine Ex_if_ne (t := 108) dX7_take_95 rfl rfl (by omega) (fun c95 => ?_) (fun c95 => absurd c95 (by omega))
      refine Ex_iinc (L2 := [_, _, _, _, _, _]) dX7_take_108 rfl rfl rfl ?_
      refine Ex_goto (t := 70) dX7_take_111 rfl ?_
      refine Ex_post (ih (i + 1) _ (by omega) (R.cg rfl (fun j hj => ⟨rfl, (co_skip (by omega) j).1, rfl, (co_skip (T := T) (by omega) j).2⟩)) kk) ?_
      rintro _ _ ⟨rfl, h2, h3⟩
      exact ⟨rfl, h2, h3⟩
    · refine Ex_iload dX7_take_70 rfl rfl ?_
      refine Ex_aload_n dX7_take_72 rfl rfl ?_
      refine Ex_getf dX7_take_73 rfl (by first | exact hr | exact hA | exact hP _ (by omega)) rfl rfl rfl ?_
      refine Ex_icmp_ge (t := 114) dX7_take_76 rfl rfl (by omega) (fun c76 => absurd c76 (by omega)) (fun c76 => ?_)
      refine Ex_iload dX7_take_79 rfl rfl ?_
      refine Ex_iload_n dX7_take_81 rfl rfl ?_
      refine Ex_icmp_eq (t := 108) dX7_take_82 rfl rfl (by omega) (fun c82 => ?_) (fun c82 => absurd c82 (by omega))
      refine Ex_iinc (L2 := [_, _, _, _, _, _]) dX7_take_108 rfl rfl rfl ?_
      refine Ex_goto (t := 70) dX7_take_111 rfl ?_
      refine Ex_post (ih (i + 1) _ (by omega) (R.cg rfl (fun j hj => ⟨rfl, (co_skip (by omega) j).1, rfl, (co_skip (T := T) (by omega) j).2⟩)) kk) ?_
      rintro _ _ ⟨rfl, h2, h3⟩
      exact ⟨rfl, h2, h3⟩
    · refine Ex_iload dX7_take_70 rfl rfl ?_
      refine Ex_aload_n dX7_take_72 rfl rfl ?_
      refine Ex_getf dX7_take_73 rfl (by first | exact hr | exact hA | exact hP _ (by omega)) rfl rfl rfl ?_
      refine Ex_icmp_ge (t := 114) dX7_take_76 rfl rfl (by omega) (fun c76 => absurd c76 (by omega)) (fun c76 => ?_)
      refine Ex_iload dX7_take_79 rfl rfl ?_
      refine Ex_iload_n dX7_take_81 rfl rfl ?_
      refine Ex_icmp_eq (t := 108) dX7_take_82 rfl rfl (by omega) (fun c82 => absurd c82 (by omega)) (fun c82 => ?_)
      refine Ex_aload_n dX7_take_85 rfl rfl ?_
      refine Ex_getf dX7_take_86 rfl (by first | exact hr | exact hA | exact hP _ (by omega)) rfl rfl rfl ?_
      refine Ex_iload dX7_take_89 rfl rfl ?_
      refine Ex_aald dX7_take_91 rfl (by first | exact hr | exact hA | exact hP _ (by omega)) (by omega) (by omega) (rarr_get (by omega)) ?_
      refine Ex_inv 2 dX7_take_92 rfl rfl (Or.inl rfl) rfl rfl rfl rfl hPo rfl rfl rfl (Ex_post (x5_swims hPo hgo.2.1) ?_)
      rintro _ _ ⟨rfl, e0⟩
      obtain rfl := Eq.symm e0
      refine Ex_if_ne (t := 108) dX7_take_95 rfl rfl (by omega) (fun c95 => absurd c95 (by omega)) (fun c95 => ?_)
      refine Ex_aload_n dX7_take_98 rfl rfl ?_
      refine Ex_getf dX7_take_99 rfl (by first | exact hr | exact hA | exact hP _ (by omega)) rfl rfl rfl ?_
      refine Ex_iload dX7_take_102 rfl rfl ?_
      refine Ex_aald dX7_take_104 rfl (by first | exact hr | exact hA | exact hP _ (by omega)) (by omega) (by omega) (rarr_get (by omega)) ?_
      refine Ex_inv 2 dX7_take_105 rfl rfl (Or.inl rfl) rfl rfl rfl rfl hPo rfl rfl rfl (Ex_post (x5_getsColder hPo (by omega) hgo.1 hgo.2.2 (kk i (by omega)).1 (by have := (kk i (by omega)).2; omega)) ?_)
      rintro _ _ ⟨rfl, rfl⟩
      refine Ex_iinc (L2 := [_, _, _, _, _, _]) dX7_take_108 rfl rfl rfl ?_
      refine Ex_goto (t := 70) dX7_take_111 rfl ?_
      have R2 := R.pup1 (i := i) (t := if sp_bears (K i) (F i) < min 20 (C i + 1) then sp_cl (T i - 1) else T i) (s := S i) (c := if sp_bears (K i) (F i) < min 20 (C i + 1) then 0 else min 20 (C i + 1)) (by omega)
      rw [fu_same] at R2
      have f1 : Fr h (am_put h (r + 2 + i) (pcell (kr i) (if sp_bears (K i) (F i) < min 20 (C i + 1) then sp_cl (T i - 1) else T i) (S i) (if sp_bears (K i) (F i) < min 20 (C i + 1) then 0 else min 20 (C i + 1)))) r (r + 9) := Fr.put _ (by omega)
      refine Ex_post (ih (i + 1) _ (by omega) (R2.cg rfl (fun j hj => ⟨rfl, (co_step q1 q2 j).1, rfl, (co_step (T := T) q1 q2 j).2⟩)) (kk.fr f1)) ?_
      rintro _ _ ⟨rfl, h2, h3⟩
      exact ⟨rfl, h2, f1.trans h3⟩
theorem coT_0 {n c : Nat} {K F T S C : Nat → Int} (j : Nat) : coT n c 0 K F S C T j = T j := by unfold coT; rw [if_neg (by omega)]
theorem coC_0 {n c : Nat} {K F S C : Nat → Int} (j : Nat) : coC n c 0 K F S C j = C j := by unfold coC; rw [if_neg (by omega)]
theorem x7_take {E : am_E} {d : Nat} {h : Hp} {r n : Nat} {m tu : Int} {kr : Nat → Nat} {T S C : Nat → Int} {K F : Nat → Int} {c : Nat} {way : Int} (R : RailAt h r n m tu kr T S C) (hg : Rng n T S C) (kk : KOK h r (r + 9) n kr K F) (hB : E.2 ≤ r) (hc : c < n) (hs : S c < 7) (hw : 0 ≤ way ∧ way ≤ 3) : Ex E (d + 4) mX7_take 0 [.ref r, .int (i32 (c : Int)), .int (i32 way), .retAddr 0, .retAddr 0, .retAddr 0] [] h (fun r1 h1 => r1 = some (.int (i32 (mnW c way K F T S))) ∧ RailAt h1 r n (m + 1) tu kr (minT n c way K F T S C) (mnS c way K F T S) (minC n c way K F T S C) ∧ Fr h h1 r (r + 9)) := by
  obtain ⟨hr, hA, hP, hG, hn6⟩ := id R
  have hgc := hg c hc
  by_cases hq : way = 3
  · have e3 : mnT n c way K F T S = fu T c (sp_cl (T c + shg S c n)) := by unfold mnT; rw [if_pos hq]
    have e4 : mnS c way K F T S = S := by unfold mnS; rw [if_pos hq]
    have e5 : mnW c way K F T S = 0 := by unfold mnW; rw [if_neg (by omega)]
    have hsh := shg_r S c n
    refine Ex_aload_n dX7_take_0 rfl rfl ?_
    refine Ex_getf dX7_take_1 rfl (by first | exact hr | exact hA | exact hP _ (by omega) | exact hr2 | exact hA2 | exact hP2 _ (by omega) | exact (kk2 c hc).1.1) rfl rfl rfl ?_
    refine Ex_iload_n dX7_take_4 rfl rfl ?_
    refine Ex_aald dX7_take_5 rfl (by first | exact hr | exact hA | exact hP _ (by omega) | exact hr2 | exact hA2 | exact hP2 _ (by omega) | exact (kk2 c hc).1.1) (by omega) (by omega) (rarr_get (by omega)) ?_
    refine Ex_astore_n (L2 := [_, _, _, _, _, _]) dX7_take_6 rfl rfl rfl ?_
    refine Ex_iconst dX7_take_7 rfl ?_
    refine Ex_istore (L2 := [_, _, _, _, _, _]) dX7_take_8 rfl rfl rfl ?_
    refine Ex_iload_n dX7_take_10 rfl rfl ?_
    refine Ex_iconst dX7_take_11 rfl ?_
    refine Ex_icmp_ne (t := 27) dX7_take_12 rfl rfl (by omega) (fun c12 => absurd c12 (by omega)) (fun c12 => ?_)
    refine Ex_aload_n dX7_take_15 rfl rfl ?_
    refine Ex_aload_n dX7_take_16 rfl rfl ?_
    refine Ex_iload_n dX7_take_17 rfl rfl ?_
    refine Ex_inv 2 dX7_take_18 rfl rfl (Or.inl rfl) rfl rfl rfl rfl hr rfl rfl rfl (Ex_post (x7_shownTo R hg hc) ?_)
    rintro _ _ ⟨rfl, e0⟩
    obtain rfl := Eq.symm e0
    refine Ex_inv 2 dX7_take_21 rfl rfl (Or.inl rfl) rfl rfl rfl rfl (hP c hc) rfl rfl rfl (Ex_post (x5_gain (hP c hc) (by omega) hgc.1 (by omega)) ?_)
    rintro _ _ ⟨rfl, rfl⟩
    have f1 : Fr h (am_put h (r + 2 + c) (pcell (kr c) (sp_cl (T c + shg S c n)) (S c) (C c))) r (r + 9) := Fr.put _ (by omega)
    have R2 := R.pup1 (i := c) (t := sp_cl (T c + shg S c n)) (s := S c) (c := C c) (by omega)
    rw [fu_same, fu_same] at R2
    obtain ⟨hr2, hA2, hP2, hG2, -⟩ := id R2
    refine Ex_goto (t := 34) dX7_take_24 rfl ?_
    refine Ex_iload_n dX7_take_34 rfl rfl ?_
    refine Ex_iconst dX7_take_35 rfl ?_
    refine Ex_icmp_ne (t := 67) dX7_take_36 rfl rfl (by omega) (fun c36 => ?_) (fun c36 => absurd c36 (by omega))
    refine Ex_iconst dX7_take_67 rfl ?_
    refine Ex_istore (L2 := [_, _, _, _, _, _]) dX7_take_68 rfl rfl rfl ?_
    refine Ex_post (x7_take_l (T := mnT n c way K F T S) (S := mnS c way K F T S) (C := C) (K := K) (F := F) (mn_r hg (fun i hi => (kk i hi).1.2.2.2) hc hs) hB hc (Or.inl rfl) n 0 _ (by omega) (R2.cg rfl (fun j hj => ⟨rfl, by rw [coT_0, e3], by rw [e4], (coC_0 j).symm⟩)) (kk.fr f1)) ?_
    rintro _ _ ⟨rfl, h2, h3⟩
    exact ⟨ri e5.symm, h2, f1.trans h3⟩
  by_cases hq2 : way = 2
  · have e4 : mnS c way K F T S = fu S c (sp_ms (K c) (F c) way (T c) (S c)) := by unfold mnS; rw [if_neg (by omega)]
    have hps := sp_passes_r (k := K c)
    have hw1 : (if way = 2 ∧ T c < sp_needs (K c) (F c) (S c) then (1 : Int) else 0) = 0 ∨ (if way = 2 ∧ T c < sp_needs (K c) (F c) (S c) then (1 : Int) else 0) = 1 := by split <;> simp
    have hg2 : Rng n (fu T c (sp_mt (K c) (F c) way (T c) (S c))) (fu S c (sp_ms (K c) (F c) way (T c) (S c))) C := by
      have := hg.fu (i := c) (sp_mt_r (k := K c) (way := way) (s := S c) (kk c hc).1.2.2.2 hgc.1) (sp_ms_r (k := K c) (f := F c) (way := way) (t := T c) ⟨hgc.2.1.1, hs⟩) hgc.2.2
      rw [fu_same] at this
      exact this
    by_cases hq3 : sp_needs (K c) (F c) (S c) ≤ T c
    · have e3 : mnT n c way K F T S = psT n c (sp_passes (K c)) (fu T c (sp_mt (K c) (F c) way (T c) (S c))) := by unfold mnT; rw [if_neg (by omega), if_pos hq2, if_pos hq3]
      refine Ex_aload_n dX7_take_0 rfl rfl ?_
      refine Ex_getf dX7_take_1 rfl (by first | exact hr | exact hA | exact hP _ (by omega) | exact hr2 | exact hA2 | exact hP2 _ (by omega) | exact (kk2 c hc).1.1) rfl rfl rfl ?_
      refine Ex_iload_n dX7_take_4 rfl rfl ?_
      refine Ex_aald dX7_take_5 rfl (by first | exact hr | exact hA | exact hP _ (by omega) | exact hr2 | exact hA2 | exact hP2 _ (by omega) | exact (kk2 c hc).1.1) (by omega) (by omega) (rarr_get (by omega)) ?_
      refine Ex_astore_n (L2 := [_, _, _, _, _, _]) dX7_take_6 rfl rfl rfl ?_
      refine Ex_iconst dX7_take_7 rfl ?_
      refine Ex_istore (L2 := [_, _, _, _, _, _]) dX7_take_8 rfl rfl rfl ?_
      refine Ex_iload_n dX7_take_10 rfl rfl ?_
      refine Ex_iconst dX7_take_11 rfl ?_
      refine Ex_icmp_ne (t := 27) dX7_take_12 rfl rfl (by omega) (fun c12 => ?_) (fun c12 => absurd c12 (by omega))
      refine Ex_aload_n dX7_take_27 rfl rfl ?_
      refine Ex_iload_n dX7_take_28 rfl rfl ?_
      refine Ex_inv 2 dX7_take_29 rfl rfl (Or.inl rfl) rfl rfl rfl rfl (hP c hc) rfl rfl rfl (Ex_post (x5_meets (hP c hc) (by omega) hgc.1 ⟨hgc.2.1.1, hs⟩ (kk c hc).1 (by have := (kk c hc).2; omega) (by omega)) ?_)
      rintro _ _ ⟨rfl, rfl⟩
      have f1 : Fr h (am_put h (r + 2 + c) (pcell (kr c) (sp_mt (K c) (F c) way (T c) (S c)) (sp_ms (K c) (F c) way (T c) (S c)) (C c))) r (r + 9) := Fr.put _ (by omega)
      have R2 := R.pup1 (i := c) (t := sp_mt (K c) (F c) way (T c) (S c)) (s := sp_ms (K c) (F c) way (T c) (S c)) (c := C c) (by omega)
      rw [fu_same] at R2
      have kk2 := kk.fr f1
      obtain ⟨hr2, hA2, hP2, hG2, -⟩ := id R2
      refine Ex_istore (L2 := [_, _, _, _, _, _]) dX7_take_32 rfl rfl rfl ?_
      refine Ex_iload_n dX7_take_34 rfl rfl ?_
      refine Ex_iconst dX7_take_35 rfl ?_
      refine Ex_icmp_ne (t := 67) dX7_take_36 rfl rfl (by omega) (fun c36 => absurd c36 (by omega)) (fun c36 => ?_)
      refine Ex_aload_n dX7_take_39 rfl rfl ?_
      refine Ex_iload_n dX7_take_40 rfl rfl ?_
      refine Ex_iload dX7_take_41 rfl rfl ?_
      refine Ex_if_eq (t := 57) dX7_take_43 rfl rfl (by omega) (fun c43 => ?_) (fun c43 => absurd c43 (by omega))
      refine Ex_aload_n dX7_take_57 rfl rfl ?_
      refine Ex_getf dX7_take_58 rfl (by first | exact hr | exact hA | exact hP _ (by omega) | exact hr2 | exact hA2 | exact hP2 _ (by omega) | exact (kk2 c hc).1.1) rfl rfl rfl ?_
      refine Ex_getf dX7_take_61 rfl (by first | exact hr | exact hA | exact hP _ (by omega) | exact hr2 | exact hA2 | exact hP2 _ (by omega) | exact (kk2 c hc).1.1) rfl (ktag_in _) rfl ?_
      refine Ex_inv 2 dX7_take_64 rfl rfl (Or.inl rfl) rfl rfl rfl rfl hr2 rfl rfl rfl (Ex_post (x7_passOn R2 hg2 hB hc (by omega)) ?_)
      rintro _ _ ⟨rfl, R3, f2⟩
      refine Ex_iconst dX7_take_67 rfl ?_
      refine Ex_istore (L2 := [_, _, _, _, _, _]) dX7_take_68 rfl rfl rfl ?_
      refine Ex_post (x7_take_l (T := mnT n c way K F T S) (S := mnS c way K F T S) (C := C) (K := K) (F := F) (mn_r hg (fun i hi => (kk i hi).1.2.2.2) hc hs) hB hc hw1 n 0 _ (by omega) (R3.cg rfl (fun j hj => ⟨rfl, by rw [coT_0, e3], by rw [e4], (coC_0 j).symm⟩)) (kk2.fr f2)) ?_
      rintro _ _ ⟨rfl, h2, h3⟩
      exact ⟨ri rfl, h2, (f1.trans f2).trans h3⟩
    · have e3 : mnT n c way K F T S = psT n c (- sp_passes (K c)) (fu T c (sp_mt (K c) (F c) way (T c) (S c))) := by unfold mnT; rw [if_neg (by omega), if_pos hq2, if_neg hq3]
      refine Ex_aload_n dX7_take_0 rfl rfl ?_
      refine Ex_getf dX7_take_1 rfl (by first | exact hr | exact hA | exact hP _ (by omega) | exact hr2 | exact hA2 | exact hP2 _ (by omega) | exact (kk2 c hc).1.1) rfl rfl rfl ?_
      refine Ex_iload_n dX7_take_4 rfl rfl ?_
      refine Ex_aald dX7_take_5 rfl (by first | exact hr | exact hA | exact hP _ (by omega) | exact hr2 | exact hA2 | exact hP2 _ (by omega) | exact (kk2 c hc).1.1) (by omega) (by omega) (rarr_get (by omega)) ?_
      refine Ex_astore_n (L2 := [_, _, _, _, _, _]) dX7_take_6 rfl rfl rfl ?_
      refine Ex_iconst dX7_take_7 rfl ?_
      refine Ex_istore (L2 := [_, _, _, _, _, _]) dX7_take_8 rfl rfl rfl ?_
      refine Ex_iload_n dX7_take_10 rfl rfl ?_
      refine Ex_iconst dX7_take_11 rfl ?_
      refine Ex_icmp_ne (t := 27) dX7_take_12 rfl rfl (by omega) (fun c12 => ?_) (fun c12 => absurd c12 (by omega))
      refine Ex_aload_n dX7_take_27 rfl rfl ?_
      refine Ex_iload_n dX7_take_28 rfl rfl ?_
      refine Ex_inv 2 dX7_take_29 rfl rfl (Or.inl rfl) rfl rfl rfl rfl (hP c hc) rfl rfl rfl (Ex_post (x5_meets (hP c hc) (by omega) hgc.1 ⟨hgc.2.1.1, hs⟩ (kk c hc).1 (by have := (kk c hc).2; omega) (by omega)) ?_)
      rintro _ _ ⟨rfl, rfl⟩
      have f1 : Fr h (am_put h (r + 2 + c) (pcell (kr c) (sp_mt (K c) (F c) way (T c) (S c)) (sp_ms (K c) (F c) way (T c) (S c)) (C c))) r (r + 9) := Fr.put _ (by omega)
      have R2 := R.pup1 (i := c) (t := sp_mt (K c) (F c) way (T c) (S c)) (s := sp_ms (K c) (F c) way (T c) (S c)) (c := C c) (by omega)
      rw [fu_same] at R2
      have kk2 := kk.fr f1
      obtain ⟨hr2, hA2, hP2, hG2, -⟩ := id R2
      refine Ex_istore (L2 := [_, _, _, _, _, _]) dX7_take_32 rfl rfl rfl ?_
      refine Ex_iload_n dX7_take_34 rfl rfl ?_
      refine Ex_iconst dX7_take_35 rfl ?_
      refine Ex_icmp_ne (t := 67) dX7_take_36 rfl rfl (by omega) (fun c36 => absurd c36 (by omega)) (fun c36 => ?_)
      refine Ex_aload_n dX7_take_39 rfl rfl ?_
      refine Ex_iload_n dX7_take_40 rfl rfl ?_
      refine Ex_iload dX7_take_41 rfl rfl ?_
      refine Ex_if_eq (t := 57) dX7_take_43 rfl rfl (by omega) (fun c43 => absurd c43 (by omega)) (fun c43 => ?_)
      refine Ex_aload_n dX7_take_46 rfl rfl ?_
      refine Ex_getf dX7_take_47 rfl (by first | exact hr | exact hA | exact hP _ (by omega) | exact hr2 | exact hA2 | exact hP2 _ (by omega) | exact (kk2 c hc).1.1) rfl rfl rfl ?_
      refine Ex_getf dX7_take_50 rfl (by first | exact hr | exact hA | exact hP _ (by omega) | exact hr2 | exact hA2 | exact hP2 _ (by omega) | exact (kk2 c hc).1.1) rfl (ktag_in _) rfl ?_
      refine Ex_ineg dX7_take_53 rfl ?_
      refine Ex_goto (t := 64) dX7_take_54 rfl ?_
      refine Ex_inv 2 dX7_take_64 rfl rfl (Or.inl rfl) rfl rfl rfl rfl hr2 rfl rfl rfl (Ex_post (x7_passOn R2 hg2 hB hc (by omega)) ?_)
      rintro _ _ ⟨rfl, R3, f2⟩
      refine Ex_iconst dX7_take_67 rfl ?_
      refine Ex_istore (L2 := [_, _, _, _, _, _]) dX7_take_68 rfl rfl rfl ?_
      refine Ex_post (x7_take_l (T := mnT n c way K F T S) (S := mnS c way K F T S) (C := C) (K := K) (F := F) (mn_r hg (fun i hi => (kk i hi).1.2.2.2) hc hs) hB hc hw1 n 0 _ (by omega) (R3.cg rfl (fun j hj => ⟨rfl, by rw [coT_0, e3], by rw [e4], (coC_0 j).symm⟩)) (kk2.fr f2)) ?_
      rintro _ _ ⟨rfl, h2, h3⟩
      exact ⟨ri rfl, h2, (f1.trans f2).trans h3⟩
  · have e3 : mnT n c way K F T S = fu T c (sp_mt (K c) (F c) way (T c) (S c)) := by unfold mnT; rw [if_neg hq, if_neg hq2]
    have e4 : mnS c way K F T S = fu S c (sp_ms (K c) (F c) way (T c) (S c)) := by unfold mnS; rw [if_neg hq]
    have hw1 : (if way = 2 ∧ T c < sp_needs (K c) (F c) (S c) then (1 : Int) else 0) = 0 ∨ (if way = 2 ∧ T c < sp_needs (K c) (F c) (S c) then (1 : Int) else 0) = 1 := by split <;> simp
    refine Ex_aload_n dX7_take_0 rfl rfl ?_
    refine Ex_getf dX7_take_1 rfl (by first | exact hr | exact hA | exact hP _ (by omega) | exact hr2 | exact hA2 | exact hP2 _ (by omega) | exact (kk2 c hc).1.1) rfl rfl rfl ?_
    refine Ex_iload_n dX7_take_4 rfl rfl ?_
    refine Ex_aald dX7_take_5 rfl (by first | exact hr | exact hA | exact hP _ (by omega) | exact hr2 | exact hA2 | exact hP2 _ (by omega) | exact (kk2 c hc).1.1) (by omega) (by omega) (rarr_get (by omega)) ?_
    refine Ex_astore_n (L2 := [_, _, _, _, _, _]) dX7_take_6 rfl rfl rfl ?_
    refine Ex_iconst dX7_take_7 rfl ?_
    refine Ex_istore (L2 := [_, _, _, _, _, _]) dX7_take_8 rfl rfl rfl ?_
    refine Ex_iload_n dX7_take_10 rfl rfl ?_
    refine Ex_iconst dX7_take_11 rfl ?_
    refine Ex_icmp_ne (t := 27) dX7_take_12 rfl rfl (by omega) (fun c12 => ?_) (fun c12 => absurd c12 (by omega))
    refine Ex_aload_n dX7_take_27 rfl rfl ?_
    refine Ex_iload_n dX7_take_28 rfl rfl ?_
    refine Ex_inv 2 dX7_take_29 rfl rfl (Or.inl rfl) rfl rfl rfl rfl (hP c hc) rfl rfl rfl (Ex_post (x5_meets (hP c hc) (by omega) hgc.1 ⟨hgc.2.1.1, hs⟩ (kk c hc).1 (by have := (kk c hc).2; omega) (by omega)) ?_)
    rintro _ _ ⟨rfl, rfl⟩
    have f1 : Fr h (am_put h (r + 2 + c) (pcell (kr c) (sp_mt (K c) (F c) way (T c) (S c)) (sp_ms (K c) (F c) way (T c) (S c)) (C c))) r (r + 9) := Fr.put _ (by omega)
    have R2 := R.pup1 (i := c) (t := sp_mt (K c) (F c) way (T c) (S c)) (s := sp_ms (K c) (F c) way (T c) (S c)) (c := C c) (by omega)
    rw [fu_same] at R2
    have kk2 := kk.fr f1
    obtain ⟨hr2, hA2, hP2, hG2, -⟩ := id R2
    refine Ex_istore (L2 := [_, _, _, _, _, _]) dX7_take_32 rfl rfl rfl ?_
    refine Ex_iload_n dX7_take_34 rfl rfl ?_
    refine Ex_iconst dX7_take_35 rfl ?_
    refine Ex_icmp_ne (t := 67) dX7_take_36 rfl rfl (by omega) (fun c36 => ?_) (fun c36 => absurd c36 (by omega))
    refine Ex_iconst dX7_take_67 rfl ?_
    refine Ex_istore (L2 := [_, _, _, _, _, _]) dX7_take_68 rfl rfl rfl ?_
    refine Ex_post (x7_take_l (T := mnT n c way K F T S) (S := mnS c way K F T S) (C := C) (K := K) (F := F) (mn_r hg (fun i hi => (kk i hi).1.2.2.2) hc hs) hB hc hw1 n 0 _ (by omega) (R2.cg rfl (fun j hj => ⟨rfl, by rw [coT_0, e3], by rw [e4], (coC_0 j).symm⟩)) kk2) ?_
    rintro _ _ ⟨rfl, h2, h3⟩
    exact ⟨ri rfl, h2, f1.trans h3⟩
