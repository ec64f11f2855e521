/-! from the law's entry to its end (by hand) -/
def tbAll (ws : List Cond) : Bool := ws.all (fun w => lw_tbl.contains w)
theorem tbAll_use {ws : List Cond} (h : tbAll ws = true) {A : Array Value} {s : State} (hts : ∀ w ∈ lw_tbl, w.before A s = true) : ∀ w ∈ ws, w.before A s = true := fun w q => hts w (List.contains_iff_mem.mp (List.all_eq_true.mp h w q))
theorem tb_1 : tbAll [.methodLinkNest RX8 25 yX11_within RX11, .methodLinkNest RX7 38 yX11_within RX11, .arrayClass .int, .arrayClass .long, .arrayOver (.object RX7), .arrayOver (.object RX5), .arrayOver (.object RX1), .arrayOver (.object RX8), .castable RX0 RX1, .castable RX2 RX1, .castable RX3 RX1, .castable RX4 RX1, .castable RX6 RX1, .castable RX9 RX1, .castable RX10 RX1] = true := by decide +kernel
theorem tb_2 : tbAll [.castable iaE iaE, .castable isE isE, .castable uoE uoE, .declares (Bundle.initS "java/lang/RuntimeException"), .declares (Bundle.initS "java/lang/Exception"), .declares (Bundle.initS Bundle.tN), .stringRef RX11 300 "no such shelf", .stringRef RX11 307 "no row", .stringRef RX11 310 "no such place", .stringRef RX0 36 "a bold one fails", .stringRef RX1 63 "a child fails", .stringRef RX3 30 "a diver fails", .laysStatic Bundle.tN "UNASSIGNED_STACK" Bundle.steD, .laysStatic Bundle.tN "SUPPRESSED_SENTINEL" Bundle.listD, .initialized Bundle.tN] = true := by decide +kernel
theorem inst_ok : vwCl.all (fun q => lw_good.contains (.instantiable q.1 q.2.2)) = true := by decide +kernel
theorem vk_ex {own tx : String} {k : Nat} {A : Array Value} {U : State} (h : (Cond.stringRef own k tx).before A U = true) : ∃ a, vk_R own k tx a U := by
  have h1 := h
  simp only [Cond.before, Cond.holds, Cond.value, State.resolvedAt?] at h1
  cases hc : U.vm.findClass own with
  | none => simp [hc] at h1
  | some c =>
    cases hk : U.vm.classes[c]? with
    | none => simp [hc, hk] at h1
    | some kc =>
      cases hr : (kc.resolved[k]?).join with
      | none => simp [hc, hk, hr] at h1
      | some r =>
        cases r with
        | string a => exact ⟨a, vk_R.of (A := A) h (by simp [Term.eval, hc, hk, hr])⟩
        | _ => simp [hc, hk, hr] at h1
section
variable {args : Array Value} {s : State} {B : Nat}
theorem am_K_ex {cs : ClassId} (hts : ∀ w ∈ lw_tbl, w.before args s = true) (hcs : ArrOfT s cs .int) : ∃ D : am_D, am_K D s ∧ D.2.2 26 = cs := by
  have hgood : ∀ w ∈ lw_good, w.before args s = true := fun w hw => hts w (List.mem_filter.mp hw).1
  have h1 : ∀ c : Nat, ∃ x : ClassId × (Nat → Nat), ∀ q : vw_C, vwCl[c]? = some q → u_Kn s q.1 q.2.1 q.2.2 x.1 x.2 := by
    intro c
    cases hq : vwCl[c]? with
    | none => exact ⟨(default, fun _ => 0), fun q z => by cases z⟩
    | some q0 =>
      obtain ⟨cC, iS, hk⟩ := u_known hgood (am_cls_ok c q0 hq).1 (hgood _ (List.contains_iff_mem.mp (List.all_eq_true.mp inst_ok q0 (List.mem_of_getElem? hq))))
      exact ⟨(cC, iS), fun q z => by cases z; exact hk⟩
  have w := tbAll_use tb_1 hts
  have aR : ∀ C : String, (Cond.arrayOver (.object C)).before args s = true → ∃ cA : ClassId, ArrOfT s cA (.object C) ∧ va_RA s cA (.object C) := by
    intro C hC
    obtain ⟨comp, c, k, g1, g2, g3, g4, g5⟩ := Cond.arrayOver_spec hC
    exact ⟨c, fun N z => ⟨(fun k h => by cases h), k, g3, comp, g4⟩, k, comp, g3, g4, g1, g5⟩
  have h2 : ∀ t : Nat, ∃ cA : ClassId, 20 ≤ t → t < 26 → ArrOfT s cA (am_aty t) ∧ va_RA s cA (am_aty t) := by
    intro t
    by_cases ht : 20 ≤ t ∧ t < 26
    rotate_left
    · exact ⟨default, fun a b => absurd ⟨a, b⟩ ht⟩
    rcases (show t = 20 ∨ t = 21 ∨ t = 22 ∨ t = 23 ∨ t = 24 ∨ t = 25 by omega) with rfl | rfl | rfl | rfl | rfl | rfl
    · obtain ⟨c, k, comp, g1, g2, g3⟩ := Cond.arrayClass_spec (w (.arrayClass .int) (by simp))
      exact ⟨c, fun _ _ => ⟨fun N z => ⟨(fun k h => by cases h), k, g2, comp, g3⟩, g1⟩⟩
    · obtain ⟨c, k, comp, g1, g2, g3⟩ := Cond.arrayClass_spec (w (.arrayClass .long) (by simp))
      exact ⟨c, fun _ _ => ⟨fun N z => ⟨(fun k h => by cases h), k, g2, comp, g3⟩, g1⟩⟩
    · obtain ⟨c, g⟩ := aR RX7 (w (.arrayOver (.object RX7)) (by simp))
      exact ⟨c, fun _ _ => g⟩
    · obtain ⟨c, g⟩ := aR RX5 (w (.arrayOver (.object RX5)) (by simp))
      exact ⟨c, fun _ _ => g⟩
    · obtain ⟨c, g⟩ := aR RX1 (w (.arrayOver (.object RX1)) (by simp))
      exact ⟨c, fun _ _ => g⟩
    · obtain ⟨c, g⟩ := aR RX8 (w (.arrayOver (.object RX8)) (by simp))
      exact ⟨c, fun _ _ => g⟩
  obtain ⟨f, hf⟩ := Classical.axiomOfChoice h1
  obtain ⟨g, hg⟩ := Classical.axiomOfChoice h2
  have cst : ∀ (t : Nat) (q : vw_C), vwCl[t]? = some q → (Cond.castable q.1 RX1).before args s = true → s.vm.assignable (f t).1 (f 1).1 = true := by
    intro t q hq hc
    obtain ⟨c, t2, e1, e2, e3⟩ := Cond.castable_spec hc
    have k1 := (hf t q hq).2.1
    have k2 := (hf 1 _ rfl).2.1
    have e4 : c = (f t).1 := Option.some.inj (e1.symm.trans k1)
    have e5 : t2 = (f 1).1 := Option.some.inj (e2.symm.trans k2)
    rw [← e4, ← e5]
    exact e3
  refine ⟨(fun c => (f c).1, fun c => (f c).2, fun t => if t = 26 then cs else g t), ⟨fun c q hq => hf c q hq, fun t a b => ?_, ⟨va_Nw.of rfl (w (.methodLinkNest RX8 25 yX11_within RX11) (by simp)), va_Nw.of rfl (w (.methodLinkNest RX7 38 yX11_within RX11) (by simp)), hcs⟩, fun t a b => ?_, fun t ht => ?_⟩, rfl⟩
  · have e : (if t = 26 then cs else g t) = g t := if_neg (by omega)
    show ArrOfT s (if t = 26 then cs else g t) _ ∧ va_RA s (if t = 26 then cs else g t) _
    rw [e]
    exact hg t a b
  · rcases (show t = 22 ∨ t = 23 ∨ t = 24 ∨ t = 25 by omega) with rfl | rfl | rfl | rfl
    · exact va_AO.of (w (.arrayOver (.object RX7)) (by simp))
    · exact va_AO.of (w (.arrayOver (.object RX5)) (by simp))
    · exact va_AO.of (w (.arrayOver (.object RX1)) (by simp))
    · exact va_AO.of (w (.arrayOver (.object RX8)) (by simp))
  · simp only [List.mem_cons, List.not_mem_nil, or_false] at ht
    rcases ht with rfl | rfl | rfl | rfl | rfl | rfl | rfl | rfl
    · exact cst 0 _ rfl (w (.castable RX0 RX1) (by simp))
    · exact va_assign (hf 1 _ rfl).2
    · exact cst 2 _ rfl (w (.castable RX2 RX1) (by simp))
    · exact cst 3 _ rfl (w (.castable RX3 RX1) (by simp))
    · exact cst 4 _ rfl (w (.castable RX4 RX1) (by simp))
    · exact cst 6 _ rfl (w (.castable RX6 RX1) (by simp))
    · exact cst 9 _ rfl (w (.castable RX9 RX1) (by simp))
    · exact cst 10 _ rfl (w (.castable RX10 RX1) (by simp))
def gvAll (ws : List Cond) : Bool := ws.all (fun w => (flatC (Jvm.Cond.and given_1 narrow_1)).contains w)
theorem gv_1 : gvAll [.isRef (.static Bundle.tN "UNASSIGNED_STACK" Bundle.steD), .isRef (.static Bundle.tN "SUPPRESSED_SENTINEL" Bundle.listD), .not (.castable isE iaE), .not (.castable uoE iaE), .not (.castable isE uoE)] = true := by decide +kernel
theorem Zx_ex (hts : ∀ w ∈ lw_tbl, w.before args s = true) (hgv : (Jvm.Cond.and given_1 narrow_1).before args s = true) : Zx s.heap.size s := by
  have hg := flat_of_before _ hgv
  have g : ∀ w ∈ ([.isRef (.static Bundle.tN "UNASSIGNED_STACK" Bundle.steD), .isRef (.static Bundle.tN "SUPPRESSED_SENTINEL" Bundle.listD), .not (.castable isE iaE), .not (.castable uoE iaE), .not (.castable isE uoE)] : List Cond), w.before args s = true := fun w q => hg w (List.contains_iff_mem.mp (List.all_eq_true.mp gv_1 w q))
  have w := tbAll_use tb_2 hts
  have hA : ∀ a : Nat, a < s.heap.size → ¬ (s.heap.size ≤ a) := fun a q => by omega
  exact ⟨⟨vx_Zqof (w (.laysStatic Bundle.tN "UNASSIGNED_STACK" Bundle.steD) (by simp)) (w (.initialized Bundle.tN) (by simp)) (g (.isRef (.static Bundle.tN "UNASSIGNED_STACK" Bundle.steD)) (by simp)) hA, vx_Zqof (w (.laysStatic Bundle.tN "SUPPRESSED_SENTINEL" Bundle.listD) (by simp)) (w (.initialized Bundle.tN) (by simp)) (g (.isRef (.static Bundle.tN "SUPPRESSED_SENTINEL" Bundle.listD)) (by simp)) hA⟩,
    ⟨vk_ex (w (.stringRef RX11 300 "no such shelf") (by simp)), vk_ex (w (.stringRef RX11 307 "no row") (by simp)), vk_ex (w (.stringRef RX11 310 "no such place") (by simp)), vk_ex (w (.stringRef RX0 36 "a bold one fails") (by simp)), vk_ex (w (.stringRef RX1 63 "a child fails") (by simp)), vk_ex (w (.stringRef RX3 30 "a diver fails") (by simp))⟩,
    ⟨va_Nw.of rfl (w (.castable iaE iaE) (by simp)), va_Nw.of rfl (w (.castable isE isE) (by simp)), va_Nw.of rfl (w (.castable uoE uoE) (by simp)), va_Nw.of rfl (w (.declares (Bundle.initS "java/lang/RuntimeException")) (by simp)), va_Nw.of rfl (w (.declares (Bundle.initS "java/lang/Exception")) (by simp)), va_Nw.of rfl (w (.declares (Bundle.initS Bundle.tN)) (by simp))⟩,
    va_Nc.of (g (.not (.castable isE iaE)) (by simp)), va_Nc.of (g (.not (.castable uoE iaE)) (by simp)), va_Nc.of (g (.not (.castable isE uoE)) (by simp))⟩
end
theorem same_nil {s t : State} {L : List Loc} {c n : Nat} (h : s.sameButNew t L c n) (hL : ∀ q ∈ L, s.heap.size ≤ q.base) : s.sameButNew t [] c n := by
  obtain ⟨h1, h2, h3, h4, h5, h6⟩ := h
  refine ⟨h1, h2, h3, h4, h5, fun a cc ha => ?_⟩
  obtain ⟨c', e1, e2, e3, e4⟩ := h6 a cc ha
  refine ⟨c', e1, e2, e3, fun i _ => e4 i (fun hm => ?_)⟩
  have z1 : a < s.heap.size := (Array.getElem?_eq_some_iff.mp ha).1
  have z2 : s.heap.size ≤ a := hL _ hm
  exact absurd z1 (Nat.not_lt.mpr z2)
