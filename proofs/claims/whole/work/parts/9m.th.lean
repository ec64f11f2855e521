/-! the methods that throw: words, fail, element (by hand) -/
def wOk (own : String) (ik ic : Nat) (E : String) : Bool := (Cond.classLink own ik E :: Cond.initialized E :: (vx_atS own ic E exN).filter goodWord).all (fun w => lw_good.contains w) && decide ((vx_atS own ic E exN).filter (fun w => !goodWord w) = [.declares (Bundle.initS "java/lang/RuntimeException"), .declares (Bundle.initS "java/lang/Exception"), .declares (Bundle.initS Bundle.tN), .castable E E]) && (Cond.classLink own ik E :: Cond.initialized E :: vx_atS own ic E exN).all vx_ot
theorem wOk_e1 : wOk RX11 298 302 iaE = true := by decide +kernel
theorem wOk_e2 : wOk RX11 305 309 isE = true := by decide +kernel
theorem wOk_0 : wOk RX0 34 38 uoE = true := by decide +kernel
theorem wOk_1 : wOk RX1 61 65 isE = true := by decide +kernel
theorem wOk_3 : wOk RX3 28 32 iaE = true := by decide +kernel
theorem exFit : ∀ n ∈ exN, Bundle.fit n = true := by
  intro n hn
  simp only [exN, List.mem_cons, List.not_mem_nil, or_false] at hn
  rcases hn with rfl | rfl <;> decide +kernel
theorem iaFit : Bundle.fit iaE = true := by decide +kernel
theorem isFit : Bundle.fit isE = true := by decide +kernel
theorem uoFit : Bundle.fit uoE = true := by decide +kernel
theorem wOk_use {own E : String} {ik ic : Nat} {s : State} {args : Array Value} (h : wOk own ik ic E = true) (hts : ∀ w ∈ lw_good, w.before args s = true) (hc : va_Nw (.castable E E) s) (h3d : decl3 s) : (Cond.classLink own ik E).before args s = true ∧ (Cond.initialized E).before args s = true ∧ (∀ w ∈ vx_atS own ic E exN, w.before args s = true) ∧ ∀ w ∈ Cond.classLink own ik E :: Cond.initialized E :: vx_atS own ic E exN, vx_ot w = true := by
  unfold wOk at h
  simp only [Bool.and_eq_true, decide_eq_true_eq, List.all_eq_true] at h
  obtain ⟨⟨h1, h2⟩, h3⟩ := h
  have hw : ∀ w ∈ Cond.classLink own ik E :: Cond.initialized E :: (vx_atS own ic E exN).filter goodWord, w.before args s = true := fun w q => hts w (List.contains_iff_mem.mp (h1 w q))
  refine ⟨hw _ List.mem_cons_self, hw _ (List.mem_cons_of_mem _ List.mem_cons_self), ?_, h3⟩
  refine vx_hat (B := [.declares (Bundle.initS "java/lang/RuntimeException"), .declares (Bundle.initS "java/lang/Exception"), .declares (Bundle.initS Bundle.tN), .castable E E]) (fun w q => hw w (List.mem_cons_of_mem _ (List.mem_cons_of_mem _ q))) (fun w q => by rw [h2] at q; exact q) (vx_c (va_Nw.use rfl h3d.1) (vx_c (va_Nw.use rfl h3d.2.1) (vx_c (va_Nw.use rfl h3d.2.2) (vx_c (va_Nw.use rfl hc) vx_n))))
section
variable {p : Program} {l : Launch} {e : Env} {R : Room} {s : State} {m : MethodId} {args : Array Value} {below : List Frame} {meth : Method} {c : Code} {D : am_D} {B : Nat} {M : Mth} {cells slots pc : Nat} {L rest : List Value} {h : Hp} {Qc : Array Value → State → Outcome → State → Prop}
theorem am_throwS {own E text : String} {ik is ic mc ms : Nat} (X : am_Cx D p s m args meth c M) (hfl : l.stackTraces = false) (Z : Zx B s) (hown : am_R M.1 = own) (hfit : Bundle.fit E = true) (hw : wOk own ik ic E = true) (hc : va_Nw (.castable E E) s) (hstr : ∃ a, vk_R own is text a s) (hne : ∀ x ∈ c.exceptionTable.toList, False)
    (d0 : decode M.2.2.1 pc = .ok (.new ik, 3)) (d3 : decode M.2.2.1 (pc + 3) = .ok (.dup, 1)) (d4 : decode M.2.2.1 (pc + 4) = .ok (.ldc is, 2)) (d6 : decode M.2.2.1 (pc + 6) = .ok (.invokespecial ic, 3)) (d9 : decode M.2.2.1 (pc + 9) = .ok (.athrow, 1))
    (hRf : 5 < R.frames) (hRl : am_cats rest + 82 ≤ R.locals) (hRc : cells + 1 ≤ R.cells) (hRs : slots + 6 ≤ R.slots) (hcm : cells + 1 ≤ mc) (hsm : slots + 6 ≤ ms) :
    am_V p l e R s m args below meth c (vx_MQ below Qc (XT D B E h) args s mc ms (fun q => B ≤ q)) D B M cells slots pc L rest h := by
  obtain ⟨hx, hb, hml, hret, hlocks, hown2, hts, hK, hnm, hM⟩ := X
  obtain ⟨w1, w2, w3, w4⟩ := wOk_use hw hts hc Z.2.2.1.2.2.2
  obtain ⟨sa, hstr⟩ := hstr
  subst hown
  intro H locs ls hP hL hF
  exact ax_throwS (names := exN) hx hb hfl hown2 hfit exFit w1 w2 hstr w3 w4 Z.1.1 Z.1.2 hF (hL.1.trans hml.symm) d0 d3 d4 d6 d9 (fun x hx => (hne x hx).elim) hRf hRl hRc hRs hlocks (fun t hW hz hq => ⟨rfl, hP.one hz hq, hK.moved hW⟩) hF hcm hsm
theorem am_throwW {own E text : String} {ik is ic mc ms : Nat} (X : am_Cx D p s m args meth c M) (hfl : l.stackTraces = false) (Z : Zx B s) (hown : am_R M.1 = own) (hfit : Bundle.fit E = true) (hw : wOk own ik ic E = true) (hc : va_Nw (.castable E E) s) (hstr : ∃ a, vk_R own is text a s) (hne : ∀ x ∈ c.exceptionTable.toList, False)
    (d0 : decode M.2.2.1 pc = .ok (.new ik, 3)) (d3 : decode M.2.2.1 (pc + 3) = .ok (.dup, 1)) (d4 : decode M.2.2.1 (pc + 4) = .ok (.ldc_w is, 3)) (d6 : decode M.2.2.1 (pc + 7) = .ok (.invokespecial ic, 3)) (d9 : decode M.2.2.1 (pc + 10) = .ok (.athrow, 1))
    (hRf : 5 < R.frames) (hRl : am_cats rest + 82 ≤ R.locals) (hRc : cells + 1 ≤ R.cells) (hRs : slots + 6 ≤ R.slots) (hcm : cells + 1 ≤ mc) (hsm : slots + 6 ≤ ms) :
    am_V p l e R s m args below meth c (vx_MQ below Qc (XT D B E h) args s mc ms (fun q => B ≤ q)) D B M cells slots pc L rest h := by
  obtain ⟨hx, hb, hml, hret, hlocks, hown2, hts, hK, hnm, hM⟩ := X
  obtain ⟨w1, w2, w3, w4⟩ := wOk_use hw hts hc Z.2.2.1.2.2.2
  obtain ⟨sa, hstr⟩ := hstr
  subst hown
  intro H locs ls hP hL hF
  exact ax_throwSW (names := exN) hx hb hfl hown2 hfit exFit w1 w2 hstr w3 w4 Z.1.1 Z.1.2 hF (hL.1.trans hml.symm) d0 d3 d4 d6 d9 (fun x hx => (hne x hx).elim) hRf hRl hRc hRs hlocks (fun t hW hz hq => ⟨rfl, hP.one hz hq, hK.moved hW⟩) hF hcm hsm
end
def mF0 : Mth := (0, yX0_fail, cX0_fail, 1, none)
def mF1 : Mth := (1, yX1_fail, cX1_fail, 1, none)
def mF3 : Mth := (3, yX3_fail, cX3_fail, 1, none)
def mF9 : Mth := (9, yX9_fail, cX9_fail, 1, none)
def mF10 : Mth := (10, yX10_fail, cX10_fail, 1, none)
def mEl : Mth := (11, yX11_element, cX11_element, 4, some .long)
theorem f1_throw {l : Launch} {D : am_D} {B d b t : Nat} {fs : List Value} {f : Int} {h : Hp} (hfl : l.stackTraces = false) (hd : 6 ≤ d) (hb : h.1 b = some (t, fs)) (ht : [0, 1, 2, 3, 4, 6, 9, 10].contains t = true) (hf0 : fs[0]? = some (.int (i32 f))) (hf : ¬ i32 f = 0) :
    vx_Met l yX1_fail (am_ws mF1) (rmX d 1 6) (ax_Pc D B [.ref b] h) Q0 (XT D B isE h) 1 6 (fun q => B ≤ q) := by
  refine ax_met (C := mF1) (by decide +kernel) rfl (by decide) (Nat.le_refl _) ?_
  intro p e s m below meth c hne X Z
  refine am_v_aload_n X rfl dX1_fail_0 ?_
  refine am_v_getf X hb rfl hf0 ht dX1_fail_1 ?_
  refine am_v_if_eq X rfl dX1_fail_4 (fun z => absurd z hf) (fun _ => ?_)
  exact am_throwS X hfl Z rfl isFit wOk_1 Z.2.2.1.2.1 Z.2.1.2.2.2.2.1 hne dX1_fail_7 dX1_fail_10 dX1_fail_11 dX1_fail_13 dX1_fail_16 (show 5 < d by omega) (show 0 + 82 ≤ 100 * d by omega) (Nat.le_refl _) (Nat.le_refl _) (Nat.le_refl _) (Nat.le_refl _)
