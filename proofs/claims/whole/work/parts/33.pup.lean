/-! small methods of the class (by program: wip/whole/spec_a.py) -/
theorem x11_within {E : am_E} {d : Nat} {h : Hp} {v a b : Int} (hv : (-2147483648 ≤ v ∧ v ≤ 2147483647) ∧ (-2147483648 ≤ a ∧ a ≤ 2147483647) ∧ (-2147483648 ≤ b ∧ b ≤ 2147483647)) : Ex E d mX11_within 0 [.int (i32 v), .int (i32 a), .int (i32 b)] [] h (fun r h1 => r = some (.int (i32 (if a ≤ v ∧ v ≤ b then 1 else 0))) ∧ h1 = h) := by
  refine Ex_iload_n dX11_within_0 rfl rfl ?_
  refine Ex_iload_n dX11_within_1 rfl rfl ?_
  refine Ex_icmp_lt (t := 14) dX11_within_2 rfl rfl (by omega) (fun c2 => ?_) (fun c2 => ?_)
  · refine Ex_iconst dX11_within_14 rfl ?_
    refine Ex_iret dX11_within_15 rfl rfl ?_
    first | exact ⟨by rw [if_pos (by omega)], rfl⟩ | exact ⟨by rw [if_neg (by omega)], rfl⟩
  · refine Ex_iload_n dX11_within_5 rfl rfl ?_
    refine Ex_iload_n dX11_within_6 rfl rfl ?_
    refine Ex_icmp_gt (t := 14) dX11_within_7 rfl rfl (by omega) (fun c7 => ?_) (fun c7 => ?_)
    · refine Ex_iconst dX11_within_14 rfl ?_
      refine Ex_iret dX11_within_15 rfl rfl ?_
      first | exact ⟨by rw [if_pos (by omega)], rfl⟩ | exact ⟨by rw [if_neg (by omega)], rfl⟩
    · refine Ex_iconst dX11_within_10 rfl ?_
      refine Ex_goto (t := 15) dX11_within_11 rfl ?_
      refine Ex_iret dX11_within_15 rfl rfl ?_
      first | exact ⟨by rw [if_pos (by omega)], rfl⟩ | exact ⟨by rw [if_neg (by omega)], rfl⟩
theorem x1_needsAt {E : am_E} {d : Nat} {h : Hp} {a : Nat} {k f s : Int} (K : KindAt h a k f) (hs : 0 ≤ s ∧ s ≤ 7) : Ex E d mX1_needsAt 0 [.ref a, .int (i32 s)] [] h (fun r h1 => r = some (.int (i32 (sp_nd k f s))) ∧ h1 = h) := by
  have k1 := K.1
  have k2 := K.2.1
  refine Ex_iload_n dX1_needsAt_0 rfl rfl ?_
  refine Ex_if_lt (t := 22) dX1_needsAt_1 rfl rfl (by omega) (fun c1 => absurd c1 (by omega)) (fun c1 => ?_)
  refine Ex_iload_n dX1_needsAt_4 rfl rfl ?_
  refine Ex_aload_n dX1_needsAt_5 rfl rfl ?_
  refine Ex_getf dX1_needsAt_6 rfl k1 rfl (ktag_in _) rfl ?_
  refine Ex_alen (n := 8) dX1_needsAt_9 rfl k2 (by omega) rfl ?_
  refine Ex_icmp_ge (t := 22) dX1_needsAt_10 rfl rfl (by omega) (fun c10 => absurd c10 (by omega)) (fun c10 => ?_)
  refine Ex_aload_n dX1_needsAt_13 rfl rfl ?_
  refine Ex_getf dX1_needsAt_14 rfl k1 rfl (ktag_in _) rfl ?_
  refine Ex_iload_n dX1_needsAt_17 rfl rfl ?_
  refine Ex_iald dX1_needsAt_18 rfl k2 (by omega) (kneeds_get hs) ?_
  refine Ex_goto (t := 23) dX1_needsAt_19 rfl ?_
  refine Ex_iret dX1_needsAt_23 rfl rfl ?_
  exact ⟨rfl, rfl⟩
theorem x5_swims {E : am_E} {d : Nat} {h : Hp} {a kr : Nat} {t s c : Int}  (hp : h.1 a = some (pcell kr t s c)) (hs : 0 ≤ s ∧ s ≤ 7)  : Ex E d mX5_swims 0 [.ref a] [] h (fun r h1 => r = some (.int (i32 (if s = 7 then 1 else 0))) ∧ h1 = h) := by
  refine Ex_aload_n dX5_swims_0 rfl rfl ?_
  refine Ex_getf dX5_swims_1 rfl (by assumption) rfl rfl rfl ?_
  refine Ex_bipush dX5_swims_4 rfl (by decide) ?_
  refine Ex_icmp_lt (t := 13) dX5_swims_6 rfl rfl (by omega) (fun c6 => ?_) (fun c6 => ?_)
  · refine Ex_iconst dX5_swims_13 rfl ?_
    refine Ex_iret dX5_swims_14 rfl rfl ?_
    first | exact ⟨by rw [if_pos (by omega)], rfl⟩ | exact ⟨by rw [if_neg (by omega)], rfl⟩
  · refine Ex_iconst dX5_swims_9 rfl ?_
    refine Ex_goto (t := 14) dX5_swims_10 rfl ?_
    refine Ex_iret dX5_swims_14 rfl rfl ?_
    first | exact ⟨by rw [if_pos (by omega)], rfl⟩ | exact ⟨by rw [if_neg (by omega)], rfl⟩
theorem x5_needs {E : am_E} {d : Nat} {h : Hp} {a kr : Nat} {t s c : Int} {k f : Int}  (hp : h.1 a = some (pcell kr t s c)) (hs : 0 ≤ s ∧ s ≤ 7) (K : KindAt h kr k f) : Ex E (d + 1) mX5_needs 0 [.ref a] [] h (fun r h1 => r = some (.int (i32 (sp_nd k f s))) ∧ h1 = h) := by
  refine Ex_aload_n dX5_needs_0 rfl rfl ?_
  refine Ex_getf dX5_needs_1 rfl (by assumption) rfl rfl rfl ?_
  refine Ex_aload_n dX5_needs_4 rfl rfl ?_
  refine Ex_getf dX5_needs_5 rfl (by assumption) rfl rfl rfl ?_
  refine Ex_inv 3 dX5_needs_8 rfl rfl (Or.inr rfl) rfl rfl rfl rfl K.1 (ktag_in _) rfl rfl (Ex_post (x1_needsAt K hs) ?_)
  rintro _ _ ⟨rfl, rfl⟩
  refine Ex_iret dX5_needs_11 rfl rfl ?_
  exact ⟨rfl, rfl⟩
theorem x5_isReady {E : am_E} {d : Nat} {h : Hp} {a kr : Nat} {t s c : Int} {k f : Int}  (hp : h.1 a = some (pcell kr t s c)) (ht : 0 ≤ t ∧ t ≤ 20) (hs : 0 ≤ s ∧ s ≤ 7) (K : KindAt h kr k f) : Ex E (d + 1) mX5_isReady 0 [.ref a] [] h (fun r h1 => r = some (.int (i32 (if s < 7 ∧ sp_needs k f s ≤ t then 1 else 0))) ∧ h1 = h) := by
  have hn := sp_nd_r (k := k) K.2.2.2 hs
  have hn2 : s < 7 → sp_nd k f s = sp_needs k f s := fun z => by unfold sp_nd; rw [if_neg (by omega)]
  refine Ex_aload_n dX5_isReady_0 rfl rfl ?_
  refine Ex_inv 2 dX5_isReady_1 rfl rfl (Or.inl rfl) rfl rfl rfl rfl (by assumption) rfl rfl rfl (Ex_post (x5_swims hp hs) ?_)
  rintro _ _ ⟨rfl, rfl⟩
  refine Ex_if_ne (t := 29) dX5_isReady_4 rfl rfl (by omega) (fun c4 => ?_) (fun c4 => ?_)
  · refine Ex_iconst dX5_isReady_29 rfl ?_
    refine Ex_iret dX5_isReady_30 rfl rfl ?_
    first | exact ⟨by rw [if_pos (by omega)], rfl⟩ | exact ⟨by rw [if_neg (by omega)], rfl⟩
  · refine Ex_aload_n dX5_isReady_7 rfl rfl ?_
    refine Ex_getf dX5_isReady_8 rfl (by assumption) rfl rfl rfl ?_
    refine Ex_aload_n dX5_isReady_11 rfl rfl ?_
    refine Ex_getf dX5_isReady_12 rfl (by assumption) rfl rfl rfl ?_
    refine Ex_aload_n dX5_isReady_15 rfl rfl ?_
    refine Ex_getf dX5_isReady_16 rfl (by assumption) rfl rfl rfl ?_
    refine Ex_inv 3 dX5_isReady_19 rfl rfl (Or.inr rfl) rfl rfl rfl rfl K.1 (ktag_in _) rfl rfl (Ex_post (x1_needsAt K hs) ?_)
    rintro _ _ ⟨rfl, rfl⟩
    refine Ex_icmp_lt (t := 29) dX5_isReady_22 rfl rfl (by omega) (fun c22 => ?_) (fun c22 => ?_)
    · refine Ex_iconst dX5_isReady_29 rfl ?_
      refine Ex_iret dX5_isReady_30 rfl rfl ?_
      first | exact ⟨by rw [if_pos (by omega)], rfl⟩ | exact ⟨by rw [if_neg (by omega)], rfl⟩
    · refine Ex_iconst dX5_isReady_25 rfl ?_
      refine Ex_goto (t := 30) dX5_isReady_26 rfl ?_
      refine Ex_iret dX5_isReady_30 rfl rfl ?_
      first | exact ⟨by rw [if_pos (by omega)], rfl⟩ | exact ⟨by rw [if_neg (by omega)], rfl⟩
theorem x5_isBehind {E : am_E} {d : Nat} {h : Hp} {a kr : Nat} {t s c : Int} {b kr2 : Nat} {t2 s2 c2 : Int}  (hp : h.1 a = some (pcell kr t s c)) (hp2 : h.1 b = some (pcell kr2 t2 s2 c2)) (ht : 0 ≤ t ∧ t ≤ 20) (hs : 0 ≤ s ∧ s ≤ 7) (ht2 : 0 ≤ t2 ∧ t2 ≤ 20) (hs2 : 0 ≤ s2 ∧ s2 ≤ 7) : Ex E d mX5_isBehind 0 [.ref a, .ref b] [] h (fun r h1 => r = some (.int (i32 (if s < s2 ∨ (s = s2 ∧ t < t2) then 1 else 0))) ∧ h1 = h) := by
  refine Ex_aload_n dX5_isBehind_0 rfl rfl ?_
  refine Ex_getf dX5_isBehind_1 rfl (by assumption) rfl rfl rfl ?_
  refine Ex_aload_n dX5_isBehind_4 rfl rfl ?_
  refine Ex_getf dX5_isBehind_5 rfl (by assumption) rfl rfl rfl ?_
  refine Ex_icmp_lt (t := 33) dX5_isBehind_8 rfl rfl (by omega) (fun c8 => ?_) (fun c8 => ?_)
  · refine Ex_iconst dX5_isBehind_33 rfl ?_
    refine Ex_goto (t := 38) dX5_isBehind_34 rfl ?_
    refine Ex_iret dX5_isBehind_38 rfl rfl ?_
    first | exact ⟨by rw [if_pos (by omega)], rfl⟩ | exact ⟨by rw [if_neg (by omega)], rfl⟩
  · refine Ex_aload_n dX5_isBehind_11 rfl rfl ?_
    refine Ex_getf dX5_isBehind_12 rfl (by assumption) rfl rfl rfl ?_
    refine Ex_aload_n dX5_isBehind_15 rfl rfl ?_
    refine Ex_getf dX5_isBehind_16 rfl (by assumption) rfl rfl rfl ?_
    refine Ex_icmp_ne (t := 37) dX5_isBehind_19 rfl rfl (by omega) (fun c19 => ?_) (fun c19 => ?_)
    · refine Ex_iconst dX5_isBehind_37 rfl ?_
      refine Ex_iret dX5_isBehind_38 rfl rfl ?_
      first | exact ⟨by rw [if_pos (by omega)], rfl⟩ | exact ⟨by rw [if_neg (by omega)], rfl⟩
    · refine Ex_aload_n dX5_isBehind_22 rfl rfl ?_
      refine Ex_getf dX5_isBehind_23 rfl (by assumption) rfl rfl rfl ?_
      refine Ex_aload_n dX5_isBehind_26 rfl rfl ?_
      refine Ex_getf dX5_isBehind_27 rfl (by assumption) rfl rfl rfl ?_
      refine Ex_icmp_ge (t := 37) dX5_isBehind_30 rfl rfl (by omega) (fun c30 => ?_) (fun c30 => ?_)
      · refine Ex_iconst dX5_isBehind_37 rfl ?_
        refine Ex_iret dX5_isBehind_38 rfl rfl ?_
        first | exact ⟨by rw [if_pos (by omega)], rfl⟩ | exact ⟨by rw [if_neg (by omega)], rfl⟩
      · refine Ex_iconst dX5_isBehind_33 rfl ?_
        refine Ex_goto (t := 38) dX5_isBehind_34 rfl ?_
        refine Ex_iret dX5_isBehind_38 rfl rfl ?_
        first | exact ⟨by rw [if_pos (by omega)], rfl⟩ | exact ⟨by rw [if_neg (by omega)], rfl⟩
theorem x5_gain {E : am_E} {d : Nat} {h : Hp} {a kr : Nat} {t s c : Int} {v : Int}  (hp : h.1 a = some (pcell kr t s c)) (hB : E.2 ≤ a) (ht : 0 ≤ t ∧ t ≤ 20) (hv : -100 ≤ v ∧ v ≤ 100) : Ex E (d + 1) mX5_gain 0 [.ref a, .int (i32 v)] [] h (fun r h1 => r = none ∧ h1 = am_put h a (pcell kr (sp_cl (t + v)) s c)) := by
  refine Ex_aload_n dX5_gain_0 rfl rfl ?_
  refine Ex_iconst dX5_gain_1 rfl ?_
  refine Ex_bipush dX5_gain_2 rfl (by decide) ?_
  refine Ex_aload_n dX5_gain_4 rfl rfl ?_
  refine Ex_getf dX5_gain_5 rfl (by assumption) rfl rfl rfl ?_
  refine Ex_iload_n dX5_gain_8 rfl rfl ?_
  refine Ex_iadd dX5_gain_9 rfl ?_
  refine Ex_min dX5_gain_10 rfl rfl rfl (by omega) ?_
  refine Ex_max dX5_gain_13 rfl rfl rfl (by omega) ?_
  refine Ex_putf (fs2 := [_, _, _, _]) dX5_gain_16 rfl (by assumption) rfl rfl rfl rfl rfl (by omega) rfl ?_
  try rw [am_put2]
  refine Ex_vret dX5_gain_19 rfl ?_
  exact ⟨rfl, rfl⟩
theorem x5_trustByFinger {E : am_E} {d : Nat} {h : Hp} {a kr : Nat} {t s c : Int} {k f : Int}  (hp : h.1 a = some (pcell kr t s c)) (ht : 0 ≤ t ∧ t ≤ 20) (K : KindAt h kr k f) : Ex E (d + 1) mX5_trustByFinger 0 [.ref a] [] h (fun r h1 => r = some (.int (i32 (min 20 (t + sp_holds k f / 2 + 1)))) ∧ h1 = h) := by
  have hn := sp_holds_r (k := k) K.2.2.2
  have k1 := K.1
  refine Ex_bipush dX5_trustByFinger_0 rfl (by decide) ?_
  refine Ex_aload_n dX5_trustByFinger_2 rfl rfl ?_
  refine Ex_getf dX5_trustByFinger_3 rfl (by first | exact hp | exact k1) rfl rfl rfl ?_
  refine Ex_aload_n dX5_trustByFinger_6 rfl rfl ?_
  refine Ex_getf dX5_trustByFinger_7 rfl (by first | exact hp | exact k1) rfl rfl rfl ?_
  refine Ex_getf dX5_trustByFinger_10 rfl (by first | exact hp | exact k1) rfl (ktag_in _) rfl ?_
  refine Ex_iconst dX5_trustByFinger_13 rfl ?_
  refine Ex_idiv dX5_trustByFinger_14 rfl (by omega) (by omega) ?_
  refine Ex_iadd dX5_trustByFinger_15 rfl ?_
  refine Ex_iconst dX5_trustByFinger_16 rfl ?_
  refine Ex_iadd dX5_trustByFinger_17 rfl ?_
  refine Ex_min dX5_trustByFinger_18 rfl rfl rfl (by omega) ?_
  refine Ex_iret dX5_trustByFinger_21 rfl rfl ?_
  exact ⟨rfl, rfl⟩
theorem x5_stepsByFinger {E : am_E} {d : Nat} {h : Hp} {a kr : Nat} {t s c : Int} {k f : Int}  (hp : h.1 a = some (pcell kr t s c)) (ht : 0 ≤ t ∧ t ≤ 20) (hs : 0 ≤ s ∧ s ≤ 7) (K : KindAt h kr k f) : Ex E (d + 2) mX5_stepsByFinger 0 [.ref a] [] h (fun r h1 => r = some (.int (i32 (if s < 7 ∧ sp_needs k f s + 3 ≤ min 20 (t + sp_holds k f / 2 + 1) then 1 else 0))) ∧ h1 = h) := by
  have hn := sp_nd_r (k := k) K.2.2.2 hs
  have hh := sp_holds_r (k := k) K.2.2.2
  have hn2 : s < 7 → sp_nd k f s = sp_needs k f s := fun z => by unfold sp_nd; rw [if_neg (by omega)]
  refine Ex_aload_n dX5_stepsByFinger_0 rfl rfl ?_
  refine Ex_inv 2 dX5_stepsByFinger_1 rfl rfl (Or.inl rfl) rfl rfl rfl rfl (by assumption) rfl rfl rfl (Ex_post (x5_swims hp hs) ?_)
  rintro _ _ ⟨rfl, rfl⟩
  refine Ex_if_ne (t := 31) dX5_stepsByFinger_4 rfl rfl (by omega) (fun c4 => ?_) (fun c4 => ?_)
  · refine Ex_iconst dX5_stepsByFinger_31 rfl ?_
    refine Ex_iret dX5_stepsByFinger_32 rfl rfl ?_
    first | exact ⟨by rw [if_pos (by omega)], rfl⟩ | exact ⟨by rw [if_neg (by omega)], rfl⟩
  · refine Ex_aload_n dX5_stepsByFinger_7 rfl rfl ?_
    refine Ex_inv 2 dX5_stepsByFinger_8 rfl rfl (Or.inl rfl) rfl rfl rfl rfl (by assumption) rfl rfl rfl (Ex_post (x5_trustByFinger hp ht K) ?_)
    rintro _ _ ⟨rfl, rfl⟩
    refine Ex_aload_n dX5_stepsByFinger_11 rfl rfl ?_
    refine Ex_getf dX5_stepsByFinger_12 rfl (by assumption) rfl rfl rfl ?_
    refine Ex_aload_n dX5_stepsByFinger_15 rfl rfl ?_
    refine Ex_getf dX5_stepsByFinger_16 rfl (by assumption) rfl rfl rfl ?_
    refine Ex_inv 3 dX5_stepsByFinger_19 rfl rfl (Or.inr rfl) rfl rfl rfl rfl K.1 (ktag_in _) rfl rfl (Ex_post (x1_needsAt K hs) ?_)
    rintro _ _ ⟨rfl, rfl⟩
    refine Ex_iconst dX5_stepsByFinger_22 rfl ?_
    refine Ex_iadd dX5_stepsByFinger_23 rfl ?_
    refine Ex_icmp_lt (t := 31) dX5_stepsByFinger_24 rfl rfl (by omega) (fun c24 => ?_) (fun c24 => ?_)
    · refine Ex_iconst dX5_stepsByFinger_31 rfl ?_
      refine Ex_iret dX5_stepsByFinger_32 rfl rfl ?_
      first | exact ⟨by rw [if_pos (by omega)], rfl⟩ | exact ⟨by rw [if_neg (by omega)], rfl⟩
    · refine Ex_iconst dX5_stepsByFinger_27 rfl ?_
      refine Ex_goto (t := 32) dX5_stepsByFinger_28 rfl ?_
      refine Ex_iret dX5_stepsByFinger_32 rfl rfl ?_
      first | exact ⟨by rw [if_pos (by omega)], rfl⟩ | exact ⟨by rw [if_neg (by omega)], rfl⟩
def sp_mt (k f way t s : Int) : Int := if way = 0 then sp_cl (t + sp_holds k f) else if way = 1 then min 20 (t + sp_holds k f / 2 + 1) else if sp_needs k f s ≤ t then t else sp_cl (t - sp_fright k f)
def sp_ms (k f way t s : Int) : Int := if way = 1 then (if sp_needs k f s + 3 ≤ min 20 (t + sp_holds k f / 2 + 1) then s + 1 else s) else if way = 2 then (if sp_needs k f s ≤ t then s + 1 else s) else s
theorem ri {a b : Int} (h : a = b) : some (Value.int (i32 a)) = some (Value.int (i32 b)) := by rw [h]
theorem pcq {h : Hp} {a kr : Nat} {t s c t2 s2 c2 : Int} (h1 : t = t2) (h2 : s = s2) (h3 : c = c2) : am_put h a (pcell kr t s c) = am_put h a (pcell kr t2 s2 c2) := by rw [h1, h2, h3]
theorem sp_mt_0 {k f t s : Int} : sp_mt k f 0 t s = sp_cl (t + sp_holds k f) := by simp [sp_mt]
theorem sp_mt_1 {k f t s : Int} : sp_mt k f 1 t s = min 20 (t + sp_holds k f / 2 + 1) := by simp [sp_mt]
theorem sp_mt_2 {k f t s : Int} : sp_mt k f 2 t s = if sp_needs k f s ≤ t then t else sp_cl (t - sp_fright k f) := by simp [sp_mt]
theorem sp_ms_0 {k f t s : Int} : sp_ms k f 0 t s = s := by simp [sp_ms]
theorem sp_ms_1 {k f t s : Int} : sp_ms k f 1 t s = if sp_needs k f s + 3 ≤ min 20 (t + sp_holds k f / 2 + 1) then s + 1 else s := by simp [sp_ms]
theorem sp_ms_2 {k f t s : Int} : sp_ms k f 2 t s = if sp_needs k f s ≤ t then s + 1 else s := by simp [sp_ms]
theorem x5_meets {E : am_E} {d : Nat} {h : Hp} {a kr : Nat} {t s c : Int} {k f way : Int}  (hp : h.1 a = some (pcell kr t s c)) (hB : E.2 ≤ a) (ht : 0 ≤ t ∧ t ≤ 20) (hs : 0 ≤ s ∧ s < 7) (K : KindAt h kr k f) (hka : kr ≠ a) (hw : 0 ≤ way ∧ way ≤ 2) : Ex E (d + 3) mX5_meets 0 [.ref a, .int (i32 way), .retAddr 0] [] h (fun r h1 => r = some (.int (i32 (if way = 2 ∧ t < sp_needs k f s then 1 else 0))) ∧ h1 = am_put h a (pcell kr (sp_mt k f way t s) (sp_ms k f way t s) c)) := by
  have hh := sp_holds_r (k := k) K.2.2.2
  have hfr := sp_fright_r (k := k) K.2.2.2
  have k1 := K.1
  rcases (show way = 0 ∨ (way = 1 ∧ sp_needs k f s + 3 ≤ min 20 (t + sp_holds k f / 2 + 1)) ∨ (way = 1 ∧ ¬ sp_needs k f s + 3 ≤ min 20 (t + sp_holds k f / 2 + 1)) ∨ (way = 2 ∧ sp_needs k f s ≤ t) ∨ (way = 2 ∧ ¬ sp_needs k f s ≤ t) by omega) with rfl | ⟨rfl, hq⟩ | ⟨rfl, hq⟩ | ⟨rfl, hq⟩ | ⟨rfl, hq⟩
  · refine Ex_iload_n dX5_meets_0 rfl rfl ?_
    refine Ex_iconst dX5_meets_1 rfl ?_
    refine Ex_icmp_ne (t := 12) dX5_meets_2 rfl rfl (by omega) (fun c2 => ?_) (fun c2 => absurd c2 (by omega))
    refine Ex_iload_n dX5_meets_12 rfl rfl ?_
    refine Ex_iconst dX5_meets_13 rfl ?_
    refine Ex_icmp_ne (t := 28) dX5_meets_14 rfl rfl (by omega) (fun c14 => ?_) (fun c14 => absurd c14 (by omega))
    refine Ex_iconst dX5_meets_28 rfl ?_
    refine Ex_istore_n (L2 := [_, _, _]) dX5_meets_29 rfl rfl rfl ?_
    refine Ex_iload_n dX5_meets_30 rfl rfl ?_
    refine Ex_if_ne (t := 48) dX5_meets_31 rfl rfl (by omega) (fun c31 => absurd c31 (by omega)) (fun c31 => ?_)
    refine Ex_aload_n dX5_meets_34 rfl rfl ?_
    refine Ex_aload_n dX5_meets_35 rfl rfl ?_
    refine Ex_getf dX5_meets_36 rfl (by first | first | exact hp | exact k1 | exact am_pg1 _ _ _ | (rw [am_pg2 (by omega)]; first | exact hp | exact k1) | (rw [am_pg2 (by omega)]; exact am_pg1 _ _ _) | (rw [am_pg2 (by omega), am_pg2 (by omega)]; first | exact hp | exact k1)) rfl rfl rfl ?_
    refine Ex_getf dX5_meets_39 rfl (by first | first | exact hp | exact k1 | exact am_pg1 _ _ _ | (rw [am_pg2 (by omega)]; first | exact hp | exact k1) | (rw [am_pg2 (by omega)]; exact am_pg1 _ _ _) | (rw [am_pg2 (by omega), am_pg2 (by omega)]; first | exact hp | exact k1)) rfl (ktag_in _) rfl ?_
    refine Ex_inv 2 dX5_meets_42 rfl rfl (Or.inl rfl) rfl rfl rfl rfl (by first | first | exact hp | exact k1 | exact am_pg1 _ _ _ | (rw [am_pg2 (by omega)]; first | exact hp | exact k1) | (rw [am_pg2 (by omega)]; exact am_pg1 _ _ _) | (rw [am_pg2 (by omega), am_pg2 (by omega)]; first | exact hp | exact k1)) rfl rfl rfl (Ex_post (x5_gain hp hB ht (by omega)) ?_)
    rintro _ _ ⟨rfl, rfl⟩
    refine Ex_goto (t := 80) dX5_meets_45 rfl ?_
    refine Ex_iload_n dX5_meets_80 rfl rfl ?_
    refine Ex_if_eq (t := 94) dX5_meets_81 rfl rfl (by omega) (fun c81 => ?_) (fun c81 => absurd c81 (by omega))
    refine Ex_iload_n dX5_meets_94 rfl rfl ?_
    refine Ex_iconst dX5_meets_95 rfl ?_
    refine Ex_icmp_ne (t := 107) dX5_meets_96 rfl rfl (by omega) (fun c96 => ?_) (fun c96 => absurd c96 (by omega))
    refine Ex_iconst dX5_meets_107 rfl ?_
    refine Ex_iret dX5_meets_108 rfl rfl ?_
    exact ⟨ri (by first | rw [if_pos (by omega)] | rw [if_neg (by omega)]), (by (try simp only [am_put2]); exact pcq (by first | simp only [sp_mt_0, sp_mt_1, sp_mt_2, sp_ms_0, sp_ms_1, sp_ms_2, hq, if_true, if_false, Int.sub_eq_add_neg] | simp only [sp_mt_0, sp_mt_1, sp_ms_0]) (by first | simp only [sp_mt_0, sp_mt_1, sp_mt_2, sp_ms_0, sp_ms_1, sp_ms_2, hq, if_true, if_false, Int.sub_eq_add_neg] | simp only [sp_mt_0, sp_mt_1, sp_ms_0]) rfl)⟩
  · refine Ex_iload_n dX5_meets_0 rfl rfl ?_
    refine Ex_iconst dX5_meets_1 rfl ?_
    refine Ex_icmp_ne (t := 12) dX5_meets_2 rfl rfl (by omega) (fun c2 => ?_) (fun c2 => absurd c2 (by omega))
    refine Ex_iload_n dX5_meets_12 rfl rfl ?_
    refine Ex_iconst dX5_meets_13 rfl ?_
    refine Ex_icmp_ne (t := 28) dX5_meets_14 rfl rfl (by omega) (fun c14 => absurd c14 (by omega)) (fun c14 => ?_)
    refine Ex_aload_n dX5_meets_17 rfl rfl ?_
    refine Ex_inv 2 dX5_meets_18 rfl rfl (Or.inl rfl) rfl rfl rfl rfl (by first | first | exact hp | exact k1 | exact am_pg1 _ _ _ | (rw [am_pg2 (by omega)]; first | exact hp | exact k1) | (rw [am_pg2 (by omega)]; exact am_pg1 _ _ _) | (rw [am_pg2 (by omega), am_pg2 (by omega)]; first | exact hp | exact k1)) rfl rfl rfl (Ex_post (x5_stepsByFinger hp ht (by omega) K) ?_)
    rintro _ _ ⟨rfl, rfl⟩
    refine Ex_if_eq (t := 28) dX5_meets_21 rfl rfl (by omega) (fun c21 => absurd c21 (by omega)) (fun c21 => ?_)
    refine Ex_iconst dX5_meets_24 rfl ?_
    refine Ex_goto (t := 29) dX5_meets_25 rfl ?_
    refine Ex_istore_n (L2 := [_, _, _]) dX5_meets_29 rfl rfl rfl ?_
    refine Ex_iload_n dX5_meets_30 rfl rfl ?_
    refine Ex_if_ne (t := 48) dX5_meets_31 rfl rfl (by omega) (fun c31 => ?_) (fun c31 => absurd c31 (by omega))
    refine Ex_iload_n dX5_meets_48 rfl rfl ?_
    refine Ex_iconst dX5_meets_49 rfl ?_
    refine Ex_icmp_ne (t := 64) dX5_meets_50 rfl rfl (by omega) (fun c50 => absurd c50 (by omega)) (fun c50 => ?_)
    refine Ex_aload_n dX5_meets_53 rfl rfl ?_
    refine Ex_aload_n dX5_meets_54 rfl rfl ?_
    refine Ex_inv 2 dX5_meets_55 rfl rfl (Or.inl rfl) rfl rfl rfl rfl (by first | first | exact hp | exact k1 | exact am_pg1 _ _ _ | (rw [am_pg2 (by omega)]; first | exact hp | exact k1) | (rw [am_pg2 (by omega)]; exact am_pg1 _ _ _) | (rw [am_pg2 (by omega), am_pg2 (by omega)]; first | exact hp | exact k1)) rfl rfl rfl (Ex_post (x5_trustByFinger hp ht K) ?_)
    rintro _ _ ⟨rfl, rfl⟩
    refine Ex_putf (fs2 := [_, _, _, _]) dX5_meets_58 rfl (by first | first | exact hp | exact k1 | exact am_pg1 _ _ _ | (rw [am_pg2 (by omega)]; first | exact hp | exact k1) | (rw [am_pg2 (by omega)]; exact am_pg1 _ _ _) | (rw [am_pg2 (by omega), am_pg2 (by omega)]; first | exact hp | exact k1)) rfl rfl rfl rfl rfl (by omega) rfl ?_
    try rw [am_put2]
    refine Ex_goto (t := 80) dX5_meets_61 rfl ?_
    refine Ex_iload_n dX5_meets_80 rfl rfl ?_
    refine Ex_if_eq (t := 94) dX5_meets_81 rfl rfl (by omega) (fun c81 => absurd c81 (by omega)) (fun c81 => ?_)
    refine Ex_aload_n dX5_meets_84 rfl rfl ?_
    refine Ex_dup dX5_meets_85 rfl rfl ?_
    refine Ex_getf dX5_meets_86 rfl (by first | first | exact hp | exact k1 | exact am_pg1 _ _ _ | (rw [am_pg2 (by omega)]; first | exact hp | exact k1) | (rw [am_pg2 (by omega)]; exact am_pg1 _ _ _) | (rw [am_pg2 (by omega), am_pg2 (by omega)]; first | exact hp | exact k1)) rfl rfl rfl ?_
    refine Ex_iconst dX5_meets_89 rfl ?_
    refine Ex_iadd dX5_meets_90 rfl ?_
    refine Ex_putf (fs2 := [_, _, _, _]) dX5_meets_91 rfl (by first | first | exact hp | exact k1 | exact am_pg1 _ _ _ | (rw [am_pg2 (by omega)]; first | exact hp | exact k1) | (rw [am_pg2 (by omega)]; exact am_pg1 _ _ _) | (rw [am_pg2 (by omega), am_pg2 (by omega)]; first | exact hp | exact k1)) rfl rfl rfl rfl rfl (by omega) rfl ?_
    try rw [am_put2]
    refine Ex_iload_n dX5_meets_94 rfl rfl ?_
    refine Ex_iconst dX5_meets_95 rfl ?_
    refine Ex_icmp_ne (t := 107) dX5_meets_96 rfl rfl (by omega) (fun c96 => ?_) (fun c96 => absurd c96 (by omega))
    refine Ex_iconst dX5_meets_107 rfl ?_
    refine Ex_iret dX5_meets_108 rfl rfl ?_
    exact ⟨ri (by first | rw [if_pos (by omega)] | rw [if_neg (by omega)]), (by (try simp only [am_put2]); exact pcq (by first | simp only [sp_mt_0, sp_mt_1, sp_mt_2, sp_ms_0, sp_ms_1, sp_ms_2, hq, if_true, if_false, Int.sub_eq_add_neg] | simp only [sp_mt_0, sp_mt_1, sp_ms_0]) (by first | simp only [sp_mt_0, sp_mt_1, sp_mt_2, sp_ms_0, sp_ms_1, sp_ms_2, hq, if_true, if_false, Int.sub_eq_add_neg] | simp only [sp_mt_0, sp_mt_1, sp_ms_0]) rfl)⟩
  · refine Ex_iload_n dX5_meets_0 rfl rfl ?_
    refine Ex_iconst dX5_meets_1 rfl ?_
    refine Ex_icmp_ne (t := 12) dX5_meets_2 rfl rfl (by omega) (fun c2 => ?_) (fun c2 => absurd c2 (by omega))
    refine Ex_iload_n dX5_meets_12 rfl rfl ?_
    refine Ex_iconst dX5_meets_13 rfl ?_
    refine Ex_icmp_ne (t := 28) dX5_meets_14 rfl rfl (by omega) (fun c14 => absurd c14 (by omega)) (fun c14 => ?_)
    refine Ex_aload_n dX5_meets_17 rfl rfl ?_
    refine Ex_inv 2 dX5_meets_18 rfl rfl (Or.inl rfl) rfl rfl rfl rfl (by first | first | exact hp | exact k1 | exact am_pg1 _ _ _ | (rw [am_pg2 (by omega)]; first | exact hp | exact k1) | (rw [am_pg2 (by omega)]; exact am_pg1 _ _ _) | (rw [am_pg2 (by omega), am_pg2 (by omega)]; first | exact hp | exact k1)) rfl rfl rfl (Ex_post (x5_stepsByFinger hp ht (by omega) K) ?_)
    rintro _ _ ⟨rfl, rfl⟩
    refine Ex_if_eq (t := 28) dX5_meets_21 rfl rfl (by omega) (fun c21 => ?_) (fun c21 => absurd c21 (by omega))
    refine Ex_iconst dX5_meets_28 rfl ?_
    refine Ex_istore_n (L2 := [_, _, _]) dX5_meets_29 rfl rfl rfl ?_
    refine Ex_iload_n dX5_meets_30 rfl rfl ?_
    refine Ex_if_ne (t := 48) dX5_meets_31 rfl rfl (by omega) (fun c31 => ?_) (fun c31 => absurd c31 (by omega))
    refine Ex_iload_n dX5_meets_48 rfl rfl ?_
    refine Ex_iconst dX5_meets_49 rfl ?_
    refine Ex_icmp_ne (t := 64) dX5_meets_50 rfl rfl (by omega) (fun c50 => absurd c50 (by omega)) (fun c50 => ?_)
    refine Ex_aload_n dX5_meets_53 rfl rfl ?_
    refine Ex_aload_n dX5_meets_54 rfl rfl ?_
    refine Ex_inv 2 dX5_meets_55 rfl rfl (Or.inl rfl) rfl rfl rfl rfl (by first | first | exact hp | exact k1 | exact am_pg1 _ _ _ | (rw [am_pg2 (by omega)]; first | exact hp | exact k1) | (rw [am_pg2 (by omega)]; exact am_pg1 _ _ _) | (rw [am_pg2 (by omega), am_pg2 (by omega)]; first | exact hp | exact k1)) rfl rfl rfl (Ex_post (x5_trustByFinger hp ht K) ?_)
    rintro _ _ ⟨rfl, rfl⟩
    refine Ex_putf (fs2 := [_, _, _, _]) dX5_meets_58 rfl (by first | first | exact hp | exact k1 | exact am_pg1 _ _ _ | (rw [am_pg2 (by omega)]; first | exact hp | exact k1) | (rw [am_pg2 (by omega)]; exact am_pg1 _ _ _) | (rw [am_pg2 (by omega), am_pg2 (by omega)]; first | exact hp | exact k1)) rfl rfl rfl rfl rfl (by omega) rfl ?_
    try rw [am_put2]
    refine Ex_goto (t := 80) dX5_meets_61 rfl ?_
    refine Ex_iload_n dX5_meets_80 rfl rfl ?_
    refine Ex_if_eq (t := 94) dX5_meets_81 rfl rfl (by omega) (fun c81 => ?_) (fun c81 => absurd c81 (by omega))
    refine Ex_iload_n dX5_meets_94 rfl rfl ?_
    refine Ex_iconst dX5_meets_95 rfl ?_
    refine Ex_icmp_ne (t := 107) dX5_meets_96 rfl rfl (by omega) (fun c96 => ?_) (fun c96 => absurd c96 (by omega))
    refine Ex_iconst dX5_meets_107 rfl ?_
    refine Ex_iret dX5_meets_108 rfl rfl ?_
    exact ⟨ri (by first | rw [if_pos (by omega)] | rw [if_neg (by omega)]), (by (try simp only [am_put2]); exact pcq (by first | simp only [sp_mt_0, sp_mt_1, sp_mt_2, sp_ms_0, sp_ms_1, sp_ms_2, hq, if_true, if_false, Int.sub_eq_add_neg] | simp only [sp_mt_0, sp_mt_1, sp_ms_0]) (by first | simp only [sp_mt_0, sp_mt_1, sp_mt_2, sp_ms_0, sp_ms_1, sp_ms_2, hq, if_true, if_false, Int.sub_eq_add_neg] | simp only [sp_mt_0, sp_mt_1, sp_ms_0]) rfl)⟩
  · refine Ex_iload_n dX5_meets_0 rfl rfl ?_
    refine Ex_iconst dX5_meets_1 rfl ?_
    refine Ex_icmp_ne (t := 12) dX5_meets_2 rfl rfl (by omega) (fun c2 => absurd c2 (by omega)) (fun c2 => ?_)
    refine Ex_aload_n dX5_meets_5 rfl rfl ?_
    refine Ex_inv 2 dX5_meets_6 rfl rfl (Or.inl rfl) rfl rfl rfl rfl (by first | first | exact hp | exact k1 | exact am_pg1 _ _ _ | (rw [am_pg2 (by omega)]; first | exact hp | exact k1) | (rw [am_pg2 (by omega)]; exact am_pg1 _ _ _) | (rw [am_pg2 (by omega), am_pg2 (by omega)]; first | exact hp | exact k1)) rfl rfl rfl (Ex_post (x5_isReady hp ht (by omega) K) ?_)
    rintro _ _ ⟨rfl, rfl⟩
    refine Ex_goto (t := 29) dX5_meets_9 rfl ?_
    refine Ex_istore_n (L2 := [_, _, _]) dX5_meets_29 rfl rfl rfl ?_
    refine Ex_iload_n dX5_meets_30 rfl rfl ?_
    refine Ex_if_ne (t := 48) dX5_meets_31 rfl rfl (by omega) (fun c31 => ?_) (fun c31 => absurd c31 (by omega))
    refine Ex_iload_n dX5_meets_48 rfl rfl ?_
    refine Ex_iconst dX5_meets_49 rfl ?_
    refine Ex_icmp_ne (t := 64) dX5_meets_50 rfl rfl (by omega) (fun c50 => ?_) (fun c50 => absurd c50 (by omega))
    refine Ex_iload_n dX5_meets_64 rfl rfl ?_
    refine Ex_if_ne (t := 80) dX5_meets_65 rfl rfl (by omega) (fun c65 => ?_) (fun c65 => absurd c65 (by omega))
    refine Ex_iload_n dX5_meets_80 rfl rfl ?_
    refine Ex_if_eq (t := 94) dX5_meets_81 rfl rfl (by omega) (fun c81 => absurd c81 (by omega)) (fun c81 => ?_)
    refine Ex_aload_n dX5_meets_84 rfl rfl ?_
    refine Ex_dup dX5_meets_85 rfl rfl ?_
    refine Ex_getf dX5_meets_86 rfl (by first | first | exact hp | exact k1 | exact am_pg1 _ _ _ | (rw [am_pg2 (by omega)]; first | exact hp | exact k1) | (rw [am_pg2 (by omega)]; exact am_pg1 _ _ _) | (rw [am_pg2 (by omega), am_pg2 (by omega)]; first | exact hp | exact k1)) rfl rfl rfl ?_
    refine Ex_iconst dX5_meets_89 rfl ?_
    refine Ex_iadd dX5_meets_90 rfl ?_
    refine Ex_putf (fs2 := [_, _, _, _]) dX5_meets_91 rfl (by first | first | exact hp | exact k1 | exact am_pg1 _ _ _ | (rw [am_pg2 (by omega)]; first | exact hp | exact k1) | (rw [am_pg2 (by omega)]; exact am_pg1 _ _ _) | (rw [am_pg2 (by omega), am_pg2 (by omega)]; first | exact hp | exact k1)) rfl rfl rfl rfl rfl (by omega) rfl ?_
    try rw [am_put2]
    refine Ex_iload_n dX5_meets_94 rfl rfl ?_
    refine Ex_iconst dX5_meets_95 rfl ?_
    refine Ex_icmp_ne (t := 107) dX5_meets_96 rfl rfl (by omega) (fun c96 => absurd c96 (by omega)) (fun c96 => ?_)
    refine Ex_iload_n dX5_meets_99 rfl rfl ?_
    refine Ex_if_ne (t := 107) dX5_meets_100 rfl rfl (by omega) (fun c100 => ?_) (fun c100 => absurd c100 (by omega))
    refine Ex_iconst dX5_meets_107 rfl ?_
    refine Ex_iret dX5_meets_108 rfl rfl ?_
    exact ⟨ri (by first | rw [if_pos (by omega)] | rw [if_neg (by omega)]), (by (try simp only [am_put2]); exact pcq (by first | simp only [sp_mt_0, sp_mt_1, sp_mt_2, sp_ms_0, sp_ms_1, sp_ms_2, hq, if_true, if_false, Int.sub_eq_add_neg] | simp only [sp_mt_0, sp_mt_1, sp_ms_0]) (by first | simp only [sp_mt_0, sp_mt_1, sp_mt_2, sp_ms_0, sp_ms_1, sp_ms_2, hq, if_true, if_false, Int.sub_eq_add_neg] | simp only [sp_mt_0, sp_mt_1, sp_ms_0]) rfl)⟩
  · refine Ex_iload_n dX5_meets_0 rfl rfl ?_
    refine Ex_iconst dX5_meets_1 rfl ?_
    refine Ex_icmp_ne (t := 12) dX5_meets_2 rfl rfl (by omega) (fun c2 => absurd c2 (by omega)) (fun c2 => ?_)
    refine Ex_aload_n dX5_meets_5 rfl rfl ?_
    refine Ex_inv 2 dX5_meets_6 rfl rfl (Or.inl rfl) rfl rfl rfl rfl (by first | first | exact hp | exact k1 | exact am_pg1 _ _ _ | (rw [am_pg2 (by omega)]; first | exact hp | exact k1) | (rw [am_pg2 (by omega)]; exact am_pg1 _ _ _) | (rw [am_pg2 (by omega), am_pg2 (by omega)]; first | exact hp | exact k1)) rfl rfl rfl (Ex_post (x5_isReady hp ht (by omega) K) ?_)
    rintro _ _ ⟨rfl, rfl⟩
    refine Ex_goto (t := 29) dX5_meets_9 rfl ?_
    refine Ex_istore_n (L2 := [_, _, _]) dX5_meets_29 rfl rfl rfl ?_
    refine Ex_iload_n dX5_meets_30 rfl rfl ?_
    refine Ex_if_ne (t := 48) dX5_meets_31 rfl rfl (by omega) (fun c31 => ?_) (fun c31 => absurd c31 (by omega))
    refine Ex_iload_n dX5_meets_48 rfl rfl ?_
    refine Ex_iconst dX5_meets_49 rfl ?_
    refine Ex_icmp_ne (t := 64) dX5_meets_50 rfl rfl (by omega) (fun c50 => ?_) (fun c50 => absurd c50 (by omega))
    refine Ex_iload_n dX5_meets_64 rfl rfl ?_
    refine Ex_if_ne (t := 80) dX5_meets_65 rfl rfl (by omega) (fun c65 => absurd c65 (by omega)) (fun c65 => ?_)
    refine Ex_aload_n dX5_meets_68 rfl rfl ?_
    refine Ex_aload_n dX5_meets_69 rfl rfl ?_
    refine Ex_getf dX5_meets_70 rfl (by first | first | exact hp | exact k1 | exact am_pg1 _ _ _ | (rw [am_pg2 (by omega)]; first | exact hp | exact k1) | (rw [am_pg2 (by omega)]; exact am_pg1 _ _ _) | (rw [am_pg2 (by omega), am_pg2 (by omega)]; first | exact hp | exact k1)) rfl rfl rfl ?_
    refine Ex_getf dX5_meets_73 rfl (by first | first | exact hp | exact k1 | exact am_pg1 _ _ _ | (rw [am_pg2 (by omega)]; first | exact hp | exact k1) | (rw [am_pg2 (by omega)]; exact am_pg1 _ _ _) | (rw [am_pg2 (by omega), am_pg2 (by omega)]; first | exact hp | exact k1)) rfl (ktag_in _) rfl ?_
    refine Ex_ineg dX5_meets_76 rfl ?_
    refine Ex_inv 2 dX5_meets_77 rfl rfl (Or.inl rfl) rfl rfl rfl rfl (by first | first | exact hp | exact k1 | exact am_pg1 _ _ _ | (rw [am_pg2 (by omega)]; first | exact hp | exact k1) | (rw [am_pg2 (by omega)]; exact am_pg1 _ _ _) | (rw [am_pg2 (by omega), am_pg2 (by omega)]; first | exact hp | exact k1)) rfl rfl rfl (Ex_post (x5_gain hp hB ht (by omega)) ?_)
    rintro _ _ ⟨rfl, rfl⟩
    refine Ex_iload_n dX5_meets_80 rfl rfl ?_
    refine Ex_if_eq (t := 94) dX5_meets_81 rfl rfl (by omega) (fun c81 => ?_) (fun c81 => absurd c81 (by omega))
    refine Ex_iload_n dX5_meets_94 rfl rfl ?_
    refine Ex_iconst dX5_meets_95 rfl ?_
    refine Ex_icmp_ne (t := 107) dX5_meets_96 rfl rfl (by omega) (fun c96 => absurd c96 (by omega)) (fun c96 => ?_)
    refine Ex_iload_n dX5_meets_99 rfl rfl ?_
    refine Ex_if_ne (t := 107) dX5_meets_100 rfl rfl (by omega) (fun c100 => absurd c100 (by omega)) (fun c100 => ?_)
    refine Ex_iconst dX5_meets_103 rfl ?_
    refine Ex_goto (t := 108) dX5_meets_104 rfl ?_
    refine Ex_iret dX5_meets_108 rfl rfl ?_
    exact ⟨ri (by first | rw [if_pos (by omega)] | rw [if_neg (by omega)]), (by (try simp only [am_put2]); exact pcq (by first | simp only [sp_mt_0, sp_mt_1, sp_mt_2, sp_ms_0, sp_ms_1, sp_ms_2, hq, if_true, if_false, Int.sub_eq_add_neg] | simp only [sp_mt_0, sp_mt_1, sp_ms_0]) (by first | simp only [sp_mt_0, sp_mt_1, sp_mt_2, sp_ms_0, sp_ms_1, sp_ms_2, hq, if_true, if_false, Int.sub_eq_add_neg] | simp only [sp_mt_0, sp_mt_1, sp_ms_0]) rfl)⟩
theorem x5_getsColder {E : am_E} {d : Nat} {h : Hp} {a kr : Nat} {t s c : Int} {k f : Int}  (hp : h.1 a = some (pcell kr t s c)) (hB : E.2 ≤ a) (ht : 0 ≤ t ∧ t ≤ 20) (hc : 0 ≤ c ∧ c ≤ 20) (K : KindAt h kr k f) (hka : kr ≠ a) : Ex E (d + 2) mX5_getsColder 0 [.ref a] [] h (fun r h1 => r = none ∧ h1 = am_put h a (pcell kr (if sp_bears k f < min 20 (c + 1) then sp_cl (t - 1) else t) s (if sp_bears k f < min 20 (c + 1) then 0 else min 20 (c + 1)))) := by
  have hh := sp_bears_r (k := k) K.2.2.2
  have k1 := K.1
  refine Ex_aload_n dX5_getsColder_0 rfl rfl ?_
  refine Ex_bipush dX5_getsColder_1 rfl (by decide) ?_
  refine Ex_aload_n dX5_getsColder_3 rfl rfl ?_
  refine Ex_getf dX5_getsColder_4 rfl (by first | first | exact hp | exact k1 | exact am_pg1 _ _ _ | (rw [am_pg2 (by omega)]; first | exact hp | exact k1) | (rw [am_pg2 (by omega)]; exact am_pg1 _ _ _) | (rw [am_pg2 (by omega), am_pg2 (by omega)]; first | exact hp | exact k1)) rfl rfl rfl ?_
  refine Ex_iconst dX5_getsColder_7 rfl ?_
  refine Ex_iadd dX5_getsColder_8 rfl ?_
  refine Ex_min dX5_getsColder_9 rfl rfl rfl (by omega) ?_
  refine Ex_putf (fs2 := [_, _, _, _]) dX5_getsColder_12 rfl (by first | first | exact hp | exact k1 | exact am_pg1 _ _ _ | (rw [am_pg2 (by omega)]; first | exact hp | exact k1) | (rw [am_pg2 (by omega)]; exact am_pg1 _ _ _) | (rw [am_pg2 (by omega), am_pg2 (by omega)]; first | exact hp | exact k1)) rfl rfl rfl rfl rfl (by omega) rfl ?_
  try rw [am_put2]
  refine Ex_aload_n dX5_getsColder_15 rfl rfl ?_
  refine Ex_getf dX5_getsColder_16 rfl (by first | first | exact hp | exact k1 | exact am_pg1 _ _ _ | (rw [am_pg2 (by omega)]; first | exact hp | exact k1) | (rw [am_pg2 (by omega)]; exact am_pg1 _ _ _) | (rw [am_pg2 (by omega), am_pg2 (by omega)]; first | exact hp | exact k1)) rfl rfl rfl ?_
  refine Ex_aload_n dX5_getsColder_19 rfl rfl ?_
  refine Ex_getf dX5_getsColder_20 rfl (by first | first | exact hp | exact k1 | exact am_pg1 _ _ _ | (rw [am_pg2 (by omega)]; first | exact hp | exact k1) | (rw [am_pg2 (by omega)]; exact am_pg1 _ _ _) | (rw [am_pg2 (by omega), am_pg2 (by omega)]; first | exact hp | exact k1)) rfl rfl rfl ?_
  refine Ex_getf dX5_getsColder_23 rfl (by first | first | exact hp | exact k1 | exact am_pg1 _ _ _ | (rw [am_pg2 (by omega)]; first | exact hp | exact k1) | (rw [am_pg2 (by omega)]; exact am_pg1 _ _ _) | (rw [am_pg2 (by omega), am_pg2 (by omega)]; first | exact hp | exact k1)) rfl (ktag_in _) rfl ?_
  refine Ex_icmp_le (t := 39) dX5_getsColder_26 rfl rfl (by omega) (fun c26 => ?_) (fun c26 => ?_)
  · refine Ex_vret dX5_getsColder_39 rfl ?_
    exact ⟨rfl, (by (try simp only [am_put2]); exact pcq (by first | rfl | omega | (rw [if_pos (by omega)]; first | rfl | omega) | (rw [if_neg (by omega)]; first | rfl | omega) | rw [if_pos (by omega)] | rw [if_neg (by omega)]) (by first | rfl | omega | (rw [if_pos (by omega)]; first | rfl | omega) | (rw [if_neg (by omega)]; first | rfl | omega) | rw [if_pos (by omega)] | rw [if_neg (by omega)]) (by first | rfl | omega | (rw [if_pos (by omega)]; first | rfl | omega) | (rw [if_neg (by omega)]; first | rfl | omega) | rw [if_pos (by omega)] | rw [if_neg (by omega)]))⟩
  · refine Ex_aload_n dX5_getsColder_29 rfl rfl ?_
    refine Ex_iconst dX5_getsColder_30 rfl ?_
    refine Ex_inv 2 dX5_getsColder_31 rfl rfl (Or.inl rfl) rfl rfl rfl rfl (am_pg1 _ _ _) rfl rfl rfl (Ex_post (x5_gain (am_pg1 _ _ _) hB ht (by omega)) ?_)
    rintro _ _ ⟨rfl, rfl⟩
    refine Ex_aload_n dX5_getsColder_34 rfl rfl ?_
    refine Ex_iconst dX5_getsColder_35 rfl ?_
    refine Ex_putf (fs2 := [_, _, _, _]) dX5_getsColder_36 rfl (by first | first | exact hp | exact k1 | exact am_pg1 _ _ _ | (rw [am_pg2 (by omega)]; first | exact hp | exact k1) | (rw [am_pg2 (by omega)]; exact am_pg1 _ _ _) | (rw [am_pg2 (by omega), am_pg2 (by omega)]; first | exact hp | exact k1)) rfl rfl rfl rfl rfl (by omega) rfl ?_
    try rw [am_put2]
    refine Ex_vret dX5_getsColder_39 rfl ?_
    exact ⟨rfl, (by (try simp only [am_put2]); exact pcq (by first | rfl | omega | (rw [if_pos (by omega)]; first | rfl | omega) | (rw [if_neg (by omega)]; first | rfl | omega) | rw [if_pos (by omega)] | rw [if_neg (by omega)]) (by first | rfl | omega | (rw [if_pos (by omega)]; first | rfl | omega) | (rw [if_neg (by omega)]; first | rfl | omega) | rw [if_pos (by omega)] | rw [if_neg (by omega)]) (by first | rfl | omega | (rw [if_pos (by omega)]; first | rfl | omega) | (rw [if_neg (by omega)]; first | rfl | omega) | rw [if_pos (by omega)] | rw [if_neg (by omega)]))⟩
theorem x5_pauses {E : am_E} {d : Nat} {h : Hp} {a kr : Nat} {t s c : Int} {w : Int}  (hp : h.1 a = some (pcell kr t s c)) (hB : E.2 ≤ a) (ht : 0 ≤ t ∧ t ≤ 20) (hs : 0 ≤ s ∧ s ≤ 7) (hw : 0 ≤ w ∧ w ≤ 9) : Ex E (d + 2) mX5_pauses 0 [.ref a, .int (i32 w)] [] h (fun r h1 => r = none ∧ h1 = am_put h a (pcell kr (sp_cl (t - w)) (if s = 7 then 7 else max 0 (s - w / 3)) 0)) := by
  refine Ex_aload_n dX5_pauses_0 rfl rfl ?_
  refine Ex_inv 2 dX5_pauses_1 rfl rfl (Or.inl rfl) rfl rfl rfl rfl (by first | assumption | exact am_pg1 _ _ _ | (rw [am_pg2 (by omega)]; assumption) | (rw [am_pg2 (by omega)]; exact am_pg1 _ _ _) | (rw [am_pg2 (by omega), am_pg2 (by omega)]; assumption)) rfl rfl rfl (Ex_post (x5_swims hp hs) ?_)
  rintro _ _ ⟨rfl, rfl⟩
  refine Ex_if_ne (t := 23) dX5_pauses_4 rfl rfl (by omega) (fun c4 => ?_) (fun c4 => ?_)
  · refine Ex_aload_n dX5_pauses_23 rfl rfl ?_
    refine Ex_iload_n dX5_pauses_24 rfl rfl ?_
    refine Ex_ineg dX5_pauses_25 rfl ?_
    refine Ex_inv 2 dX5_pauses_26 rfl rfl (Or.inl rfl) rfl rfl rfl rfl (by first | assumption | exact am_pg1 _ _ _ | (rw [am_pg2 (by omega)]; assumption) | (rw [am_pg2 (by omega)]; exact am_pg1 _ _ _) | (rw [am_pg2 (by omega), am_pg2 (by omega)]; assumption)) rfl rfl rfl (Ex_post (x5_gain (by first | assumption | exact am_pg1 _ _ _ | (rw [am_pg2 (by omega)]; assumption) | (rw [am_pg2 (by omega)]; exact am_pg1 _ _ _) | (rw [am_pg2 (by omega), am_pg2 (by omega)]; assumption)) hB ht (by omega)) ?_)
    rintro _ _ ⟨rfl, rfl⟩
    refine Ex_aload_n dX5_pauses_29 rfl rfl ?_
    refine Ex_iconst dX5_pauses_30 rfl ?_
    refine Ex_putf (fs2 := [_, _, _, _]) dX5_pauses_31 rfl (by first | assumption | exact am_pg1 _ _ _ | (rw [am_pg2 (by omega)]; assumption) | (rw [am_pg2 (by omega)]; exact am_pg1 _ _ _) | (rw [am_pg2 (by omega), am_pg2 (by omega)]; assumption)) rfl rfl rfl rfl rfl (by omega) rfl ?_
    try rw [am_put2]
    refine Ex_vret dX5_pauses_34 rfl ?_
    exact ⟨rfl, (by (try simp only [am_put2]); exact pcq (by first | rfl | omega | (rw [if_pos (by omega)]; first | rfl | omega) | (rw [if_neg (by omega)]; first | rfl | omega) | rw [if_pos (by omega)] | rw [if_neg (by omega)]) (by first | rfl | omega | (rw [if_pos (by omega)]; first | rfl | omega) | (rw [if_neg (by omega)]; first | rfl | omega) | rw [if_pos (by omega)] | rw [if_neg (by omega)]) (by first | rfl | omega | (rw [if_pos (by omega)]; first | rfl | omega) | (rw [if_neg (by omega)]; first | rfl | omega) | rw [if_pos (by omega)] | rw [if_neg (by omega)]))⟩
  · refine Ex_aload_n dX5_pauses_7 rfl rfl ?_
    refine Ex_iconst dX5_pauses_8 rfl ?_
    refine Ex_aload_n dX5_pauses_9 rfl rfl ?_
    refine Ex_getf dX5_pauses_10 rfl (by first | assumption | exact am_pg1 _ _ _ | (rw [am_pg2 (by omega)]; assumption) | (rw [am_pg2 (by omega)]; exact am_pg1 _ _ _) | (rw [am_pg2 (by omega), am_pg2 (by omega)]; assumption)) rfl rfl rfl ?_
    refine Ex_iload_n dX5_pauses_13 rfl rfl ?_
    refine Ex_iconst dX5_pauses_14 rfl ?_
    refine Ex_idiv dX5_pauses_15 rfl (by omega) (by omega) ?_
    refine Ex_isub dX5_pauses_16 rfl ?_
    refine Ex_max dX5_pauses_17 rfl rfl rfl (by omega) ?_
    refine Ex_putf (fs2 := [_, _, _, _]) dX5_pauses_20 rfl (by first | assumption | exact am_pg1 _ _ _ | (rw [am_pg2 (by omega)]; assumption) | (rw [am_pg2 (by omega)]; exact am_pg1 _ _ _) | (rw [am_pg2 (by omega), am_pg2 (by omega)]; assumption)) rfl rfl rfl rfl rfl (by omega) rfl ?_
    try rw [am_put2]
    refine Ex_aload_n dX5_pauses_23 rfl rfl ?_
    refine Ex_iload_n dX5_pauses_24 rfl rfl ?_
    refine Ex_ineg dX5_pauses_25 rfl ?_
    refine Ex_inv 2 dX5_pauses_26 rfl rfl (Or.inl rfl) rfl rfl rfl rfl (by first | assumption | exact am_pg1 _ _ _ | (rw [am_pg2 (by omega)]; assumption) | (rw [am_pg2 (by omega)]; exact am_pg1 _ _ _) | (rw [am_pg2 (by omega), am_pg2 (by omega)]; assumption)) rfl rfl rfl (Ex_post (x5_gain (by first | assumption | exact am_pg1 _ _ _ | (rw [am_pg2 (by omega)]; assumption) | (rw [am_pg2 (by omega)]; exact am_pg1 _ _ _) | (rw [am_pg2 (by omega), am_pg2 (by omega)]; assumption)) hB ht (by omega)) ?_)
    rintro _ _ ⟨rfl, rfl⟩
    refine Ex_aload_n dX5_pauses_29 rfl rfl ?_
    refine Ex_iconst dX5_pauses_30 rfl ?_
    refine Ex_putf (fs2 := [_, _, _, _]) dX5_pauses_31 rfl (by first | assumption | exact am_pg1 _ _ _ | (rw [am_pg2 (by omega)]; assumption) | (rw [am_pg2 (by omega)]; exact am_pg1 _ _ _) | (rw [am_pg2 (by omega), am_pg2 (by omega)]; assumption)) rfl rfl rfl rfl rfl (by omega) rfl ?_
    try rw [am_put2]
    refine Ex_vret dX5_pauses_34 rfl ?_
    exact ⟨rfl, (by (try simp only [am_put2]); exact pcq (by first | rfl | omega | (rw [if_pos (by omega)]; first | rfl | omega) | (rw [if_neg (by omega)]; first | rfl | omega) | rw [if_pos (by omega)] | rw [if_neg (by omega)]) (by first | rfl | omega | (rw [if_pos (by omega)]; first | rfl | omega) | (rw [if_neg (by omega)]; first | rfl | omega) | rw [if_pos (by omega)] | rw [if_neg (by omega)]) (by first | rfl | omega | (rw [if_pos (by omega)]; first | rfl | omega) | (rw [if_neg (by omega)]; first | rfl | omega) | rw [if_pos (by omega)] | rw [if_neg (by omega)]))⟩
theorem x5_setTo {E : am_E} {d : Nat} {h : Hp} {a kr : Nat} {t s c : Int} {b kr2 : Nat} {t2 s2 c2 : Int}  (hp : h.1 a = some (pcell kr t s c)) (hp2 : h.1 b = some (pcell kr2 t2 s2 c2)) (hB : E.2 ≤ a) (hab : b ≠ a) : Ex E d mX5_setTo 0 [.ref a, .ref b] [] h (fun r h1 => r = none ∧ h1 = am_put h a (pcell kr2 t2 s2 c2)) := by
  refine Ex_aload_n dX5_setTo_0 rfl rfl ?_
  refine Ex_aload_n dX5_setTo_1 rfl rfl ?_
  refine Ex_getf dX5_setTo_2 rfl (by first | assumption | exact am_pg1 _ _ _ | (rw [am_pg2 (by omega)]; assumption) | (rw [am_pg2 (by omega)]; exact am_pg1 _ _ _) | (rw [am_pg2 (by omega), am_pg2 (by omega)]; assumption)) rfl rfl rfl ?_
  refine Ex_putf (fs2 := [_, _, _, _]) dX5_setTo_5 rfl (by first | assumption | exact am_pg1 _ _ _ | (rw [am_pg2 (by omega)]; assumption) | (rw [am_pg2 (by omega)]; exact am_pg1 _ _ _) | (rw [am_pg2 (by omega), am_pg2 (by omega)]; assumption)) rfl rfl rfl rfl rfl (by omega) rfl ?_
  try rw [am_put2]
  refine Ex_aload_n dX5_setTo_8 rfl rfl ?_
  refine Ex_aload_n dX5_setTo_9 rfl rfl ?_
  refine Ex_getf dX5_setTo_10 rfl (by first | assumption | exact am_pg1 _ _ _ | (rw [am_pg2 (by omega)]; assumption) | (rw [am_pg2 (by omega)]; exact am_pg1 _ _ _) | (rw [am_pg2 (by omega), am_pg2 (by omega)]; assumption)) rfl rfl rfl ?_
  refine Ex_putf (fs2 := [_, _, _, _]) dX5_setTo_13 rfl (by first | assumption | exact am_pg1 _ _ _ | (rw [am_pg2 (by omega)]; assumption) | (rw [am_pg2 (by omega)]; exact am_pg1 _ _ _) | (rw [am_pg2 (by omega), am_pg2 (by omega)]; assumption)) rfl rfl rfl rfl rfl (by omega) rfl ?_
  try rw [am_put2]
  refine Ex_aload_n dX5_setTo_16 rfl rfl ?_
  refine Ex_aload_n dX5_setTo_17 rfl rfl ?_
  refine Ex_getf dX5_setTo_18 rfl (by first | assumption | exact am_pg1 _ _ _ | (rw [am_pg2 (by omega)]; assumption) | (rw [am_pg2 (by omega)]; exact am_pg1 _ _ _) | (rw [am_pg2 (by omega), am_pg2 (by omega)]; assumption)) rfl rfl rfl ?_
  refine Ex_putf (fs2 := [_, _, _, _]) dX5_setTo_21 rfl (by first | assumption | exact am_pg1 _ _ _ | (rw [am_pg2 (by omega)]; assumption) | (rw [am_pg2 (by omega)]; exact am_pg1 _ _ _) | (rw [am_pg2 (by omega), am_pg2 (by omega)]; assumption)) rfl rfl rfl rfl rfl (by omega) rfl ?_
  try rw [am_put2]
  refine Ex_aload_n dX5_setTo_24 rfl rfl ?_
  refine Ex_aload_n dX5_setTo_25 rfl rfl ?_
  refine Ex_getf dX5_setTo_26 rfl (by first | assumption | exact am_pg1 _ _ _ | (rw [am_pg2 (by omega)]; assumption) | (rw [am_pg2 (by omega)]; exact am_pg1 _ _ _) | (rw [am_pg2 (by omega), am_pg2 (by omega)]; assumption)) rfl rfl rfl ?_
  refine Ex_putf (fs2 := [_, _, _, _]) dX5_setTo_29 rfl (by first | assumption | exact am_pg1 _ _ _ | (rw [am_pg2 (by omega)]; assumption) | (rw [am_pg2 (by omega)]; exact am_pg1 _ _ _) | (rw [am_pg2 (by omega), am_pg2 (by omega)]; assumption)) rfl rfl rfl rfl rfl (by omega) rfl ?_
  try rw [am_put2]
  refine Ex_vret dX5_setTo_32 rfl ?_
  exact ⟨rfl, by simp only [am_put2]⟩
theorem x5_init {E : am_E} {d : Nat} {h : Hp} {a b : Nat} {fs : List Value}  (hp : h.1 a = some (5, [.null, .int (i32 0), .int (i32 0), .int (i32 0)])) (hB : E.2 ≤ a) : Ex E (d + 1) mX5_init 0 [.ref a, .ref b] [] h (fun r h1 => r = none ∧ h1 = am_put h a (pcell b 0 0 0)) := by
  refine Ex_aload_n dX5_init_0 rfl rfl ?_
  refine Ex_obj dX5_init_1 rfl rfl rfl ?_
  refine Ex_aload_n dX5_init_4 rfl rfl ?_
  refine Ex_aload_n dX5_init_5 rfl rfl ?_
  refine Ex_putf (fs2 := [_, _, _, _]) dX5_init_6 rfl (by assumption) rfl rfl rfl rfl rfl (by omega) rfl ?_
  try rw [am_put2]
  refine Ex_vret dX5_init_9 rfl ?_
  exact ⟨rfl, rfl⟩
