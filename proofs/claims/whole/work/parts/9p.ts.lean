/-! toss: returns, or catches (by hand) -/
abbrev hhT : List (Nat × Nat × Nat × Nat) := [(16, 20, 23, 298), (16, 20, 33, 333), (16, 20, 42, 305)]
def tsW (C : String) (F : Mth) : Bool := lwAll [.methodLink RX11 330 yX1_fail, .sameMethod RX1 RX1 "fail" "()V", .instanceMethod yX1_fail, .selects C yX1_fail F.2.1, .instanceMethod F.2.1, .initialized F.2.1.cls, .code F.2.1 F.2.2.1 F.2.2.2.1 F.2.2.2.2, .code yX1_fail cX1_fail 1 none] && decide (F.2.2.2.1 = 1)
theorem tw_1 : tsW RX1 mF1 = true := by decide +kernel
theorem tw_0 : tsW RX0 mF0 = true := by decide +kernel
theorem tw_9 : tsW RX9 mF9 = true := by decide +kernel
theorem tw_10 : tsW RX10 mF10 = true := by decide +kernel
theorem tw_6 : tsW RX6 mF0 = true := by decide +kernel
theorem tw_4 : tsW RX4 mF0 = true := by decide +kernel
theorem tw_2 : tsW RX2 mF9 = true := by decide +kernel
theorem tw_3 : tsW RX3 mF3 = true := by decide +kernel
theorem tw_c : lwAll [.classLink RX11 298 iaE, .classLink RX11 333 uoE, .classLink RX11 305 isE] = true := by decide +kernel
section
variable {p : Program} {l : Launch} {e : Env} {R : Room} {s : State} {m : MethodId} {args : Array Value} {below : List Frame} {meth : Method} {c : Code} {Q : State → Prop} {D : am_D} {B : Nat} {cells slots : Nat} {L : List Value} {h : Hp}
/-- the call of fail -/
theorem ts_call {d b t mc ms : Nat} {fs : List Value} {C : String} {F : Mth} {Qc : Array Value → State → Outcome → State → Prop} {XC : String → State → State → Prop} (X : am_Cx D p s m args meth c mX11_toss) (Z : Zx B s) (hw1 : tsW C F = true) (hb : h.1 b = some (t, fs)) (hC : (vwCl[t]?).map (fun q => q.1) = some C)
    (hM : vx_Met l F.2.1 (am_ws F) (rmX d mc ms) (ax_Pc D B [.ref b] h) Qc XC mc ms (fun q => B ≤ q))
    (hfr : d + 1 ≤ R.frames) (hlo : 100 * (d + 1) ≤ R.locals) (hcl : cells + mc ≤ R.cells) (hsl : slots + ms ≤ R.slots)
    (kk : ∀ (v : Option Value) (st t : State), Qc [.ref b].toArray st (.returned v) t → ∃ h1, am_P D B h1 t.heap ∧ am_V p l e R s m args below meth c Q D B mX11_toss (cells + mc) (slots + ms) (17 + 3) L (v.toList ++ []) h1)
    (kx : ∀ (ls : Array Slot) (E : String) (st t : State) (q : Addr) (ce : Cell) (locs1 : List Loc), am_lv ls 4 L → XC E st t → (∀ z ∈ locs1, B ≤ z.base) → t.heap[q]? = some ce → ce.vm = .none → s.vm.findClass E = some ce.cls → vx_W p l e R s m args below meth c t.heap locs1 (cells + mc) (slots + ms) Q (F0 m 17 ls []) q) :
    am_V p l e R s m args below meth c Q D B mX11_toss cells slots 17 L [.ref b] h := by
  have hX := X
  obtain ⟨hx, hbc, hml, hret, hlocks, hown, hts, hK, hnm, hM16⟩ := X
  simp only [tsW, Bool.and_eq_true, decide_eq_true_eq] at hw1
  obtain ⟨hw1, hF1⟩ := hw1
  intro H locs ls hP hL hF T hT XS
  have hq := st_kept XS hF
  rw [hT] at hq
  have hfix : CallFix p m c mX11_toss.2.2.1 mX11_toss.2.2.2.1 s args lw_good (am_R mX11_toss.1) := ⟨hx, hbc, hml, hown, hts⟩
  have hpre : ∀ U : State, U.heap = H → s.WarmedH U.vm → ax_Pc D B [.ref b] h [.ref b].toArray U := fun U hU hW => ⟨rfl, ⟨by rw [hU]; exact hP, hK.moved hW⟩, Z.go hW (fun a h1 h2 => by rw [hU]; exact hq a h1 h2)⟩
  have hw := lwAll_use hw1
  have hr := vx_runU (e := e) (below := below) (meth := meth) (As := []) (b := b) (C := C) (owner := RX1) (x := yX1_fail) (rest := []) (g := F0 m 17 ls [.ref b]) (H := H) (locs := locs) (cells := cells) (slots := slots) hfix hM (va_cwO 0 hts (am_goodIn (fun w q => by
      simp only [va_wsO, am_ws, List.cons_append, List.nil_append, List.mem_cons] at q
      rcases q with rfl | rfl | rfl | rfl | rfl | rfl | rfl | q
      · exact hw (.methodLink RX11 330 yX1_fail) (by simp)
      · exact hw (.sameMethod RX1 RX1 "fail" "()V") (by simp)
      · exact hw (.instanceMethod yX1_fail) (by simp)
      · exact hw (.selects C yX1_fail F.2.1) (by simp)
      · exact hw (.instanceMethod F.2.1) (by simp)
      · exact hw (.initialized F.2.1.cls) (by simp)
      · exact hw (.code F.2.1 F.2.2.1 F.2.2.2.1 F.2.2.2.2) (by simp)
      · exact q)) rfl rfl rfl (hw (.code yX1_fail cX1_fail 1 none) (by simp)) ⟨by decide, by decide, by decide +kernel⟩ ⟨hfr, by rw [hF1]; show 8 + (1 + 11) + 100 * d ≤ R.locals; omega⟩) ⟨ax_blind, am_recv hP hK hb hC, hpre⟩ rfl rfl hL.1 rfl (by show 2 * 0 + 0 ≤ 8; omega) dX11_toss_17 ⟨hcl, hsl⟩
  exact am_contX (M := mX11_toss) hr hL hF kk (fun E st t q ce locs1 a1 a2 a3 a4 a5 => kx ls E st t q ce locs1 hL a1 a2 a3 a4 a5) T hT XS
/-- the roads behind it -/
theorem ts_ret {mc ms d : Nat} {b : Nat} (X : am_Cx D p s m args meth c mX11_toss) : am_V p l e R s m args below meth c (vx_MQ below (am_Qc D B (some (.int (i32 (-15)))) h) X0 args s cells slots (fun q => B ≤ q)) D B mX11_toss cells slots (17 + 3) L [] h := by
  refine am_v_goto X rfl dX11_toss_20 ?_
  refine am_v_bipush X dX11_toss_48 ?_
  exact ax_ret X dX11_toss_50 rfl rfl rfl rfl
end
