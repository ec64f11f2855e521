/-! what the calls that throw and catch answer, read off the heap; the oracle (by hand) -/
def rd8 (h : Hp) (a : Nat) (p : Int) : Option Value := (h.1 a).bind (fun q => q.2[p.toNat]?)
def rTs (h : Hp) (x : Nat) (p : Int) : Int :=
  if 0 ≤ p ∧ p ≤ 7 then
    (match rd8 h (x + 6) p with
     | some (.ref a) => (match h.1 a with
       | some (_, .int f :: .int k :: _) => tss k.toInt f.toInt
       | _ => 0)
     | _ => (match rd8 h (x + 7) p with
       | some (.ref _) => -12
       | _ => -11))
  else -1
def rEt (h : Hp) (x : Nat) (p q : Int) : Int :=
  if 0 ≤ p ∧ p ≤ 7 then
    (match rd8 h (x + 7) p with
     | some (.ref a) => (match h.1 (a + 1) with
       | some (_, l) => if 0 ≤ q ∧ q < (l.length : Int) then 0 else 2
       | _ => 2)
     | _ => 2)
  else 1
def rEv (h : Hp) (x : Nat) (p q : Int) : Int :=
  (match rd8 h (x + 7) p with
   | some (.ref a) => (match rd8 h (a + 1) q with
     | some (.int v) => v.toInt
     | _ => 0)
   | _ => 0)
section
variable {B x y : Nat} {h : Hp} {hi : Int} {hw ck cf rs : Nat → Int} {rx : Nat → List Int} {sa : Nat → Nat} {p q : Int}
theorem rTs_eq (V : Shv h x y hw ck cf rs rx sa) : rTs h x p = an_toss hw ck cf p := by
  unfold rTs an_toss
  by_cases c : 0 ≤ p ∧ p ≤ 7
  rotate_left
  · rw [if_neg c, if_neg (fun z => c z.1), why, if_neg c]
  rw [if_pos c]
  have k1 : rd8 h (x + 6) p = some (kv hw sa p.toNat) := by unfold rd8; rw [V.1]; exact va8_get (by omega)
  have k2 : rd8 h (x + 7) p = some (rv hw sa p.toNat) := by unfold rd8; rw [V.2.1]; exact va8_get (by omega)
  rw [k1, k2]
  rcases (V.2.2.1 p.toNat (by omega)).1 with z | z | z
  · rw [show kv hw sa p.toNat = .null from if_neg (by omega), show rv hw sa p.toNat = .null from if_neg (by omega), if_neg (by omega), why, if_pos c, if_pos z]
  · obtain ⟨K, -⟩ := V.kind ⟨c, z⟩
    rw [show kv hw sa p.toNat = .ref (sa p.toNat) from if_pos z, if_pos ⟨c, z⟩]
    simp only [K.1, kfs]
    rw [i32_toInt (by have := K.2.2; omega), i32_toInt (by have := K.2.2; omega)]
  · rw [show kv hw sa p.toNat = .null from if_neg (by omega), show rv hw sa p.toNat = .ref (sa p.toNat) from if_pos z, if_neg (by omega), why, if_pos c, if_neg (by omega)]
theorem rEt_eq (V : Shv h x y hw ck cf rs rx sa) : rEt h x p q = el_t hw rx p q := by
  unfold rEt el_t
  by_cases c : 0 ≤ p ∧ p ≤ 7
  rotate_left
  · rw [if_neg c, if_neg c]
  rw [if_pos c, if_pos c]
  have k2 : rd8 h (x + 7) p = some (rv hw sa p.toNat) := by unfold rd8; rw [V.2.1]; exact va8_get (by omega)
  rw [k2]
  by_cases z : hw p.toNat = 2
  rotate_left
  · rw [show rv hw sa p.toNat = .null from if_neg z, if_neg (fun w => z w.1)]
  obtain ⟨W, -⟩ := V.row ⟨c, z⟩
  rw [show rv hw sa p.toNat = .ref (sa p.toNat) from if_pos z]
  simp only [W.2.1, ia_len, z, true_and]
theorem rEv_eq (V : Shv h x y hw ck cf rs rx sa) (he : el_t hw rx p q = 0) : rEv h x p q = el_v hw rx p q := by
  unfold el_t at he
  by_cases c : 0 ≤ p ∧ p ≤ 7
  rotate_left
  · rw [if_neg c] at he; omega
  rw [if_pos c] at he
  by_cases z : hw p.toNat = 2 ∧ (0 ≤ q ∧ q < ((rx p.toNat).length : Int))
  rotate_left
  · rw [if_neg z] at he; omega
  unfold rEv el_v
  have k2 : rd8 h (x + 7) p = some (rv hw sa p.toNat) := by unfold rd8; rw [V.2.1]; exact va8_get (by omega)
  obtain ⟨W, -⟩ := V.row ⟨c, z.1⟩
  have hl : q.toNat < (rx p.toNat).length := by omega
  have k3 : rd8 h (sa p.toNat + 1) q = some (.int (i32 ((rx p.toNat).getD q.toNat 0))) := by unfold rd8; rw [W.2.1]; exact ia_get hl
  rw [k2, show rv hw sa p.toNat = .ref (sa p.toNat) from if_pos z.1, if_pos ⟨c, z⟩]
  simp only [k3]
  refine i32_toInt (W.2.2.2.2 _ ?_)
  rw [List.getD_eq_getElem?_getD, List.getElem?_eq_getElem hl]
  exact List.getElem_mem hl
end
/-- what such a call does -/
def OGt (B : Nat) (vs : List Value) (h : Hp) (r : Option Value) (h1 : Hp) : Prop := ∃ (x : Nat) (z : Int32) (X XI : RS) (hi : Int) (hw ck cf rs : Nat → Int) (rx : Nat → List Int), vs = [.ref x, .int z] ∧ B ≤ x ∧ CI h x X XI hi hw ck cf rs rx ∧ r = some (.int (i32 (an_toss hw ck cf z.toInt))) ∧ (if ((0 ≤ z.toInt ∧ z.toInt ≤ 7) ∧ hw z.toInt.toNat = 1) ∧ tss (ck z.toInt.toNat) (cf z.toInt.toNat) ≠ -15 then h1 = hp1 h else h1 = h)
def OGe (B : Nat) (vs : List Value) (h : Hp) (r : Option Value) (h1 : Hp) : Prop := ∃ (x : Nat) (z w : Int32) (v0 : Int64) (X XI : RS) (hi : Int) (hw ck cf rs : Nat → Int) (rx : Nat → List Int), vs = [.ref x, .int z, .int w, .ref (x + 80)] ∧ B ≤ x ∧ CI h x X XI hi hw ck cf rs rx ∧ h.1 (x + 80) = some (21, [.long v0]) ∧ r = some (.int (i32 (el_t hw rx z.toInt w.toInt))) ∧ (if el_t hw rx z.toInt w.toInt = 0 then h1 = am_put h (x + 80) (21, [.long (i64 (el_v hw rx z.toInt w.toInt))]) else h1 = hp1 h)
def OG (B mode : Nat) (vs : List Value) (h : Hp) (r : Option Value) (h1 : Hp) : Prop := (mode = 10 ∧ OGt B vs h r h1) ∨ (mode = 11 ∧ OGe B vs h r h1)
theorem hp1_gr {h : Hp} (w : WF h) (lo hi : Nat) : Gr h (hp1 h) lo hi 200 1600 := ⟨by show h.2.1 ≤ h.2.1 + 1 ∧ h.2.1 + 1 ≤ h.2.1 + 200 ∧ h.2.2 ≤ h.2.2 + 6 ∧ h.2.2 + 6 ≤ h.2.2 + 1600; omega, fun q hq => w q (by have : h.2.1 + 1 ≤ q := hq; omega), fun q v _ e => e⟩
theorem orc_ex (B : Nat) : ∃ O : Nat → List Value → Hp → Option (Option Value × Hp), (∀ (mode : Nat) (vs : List Value) (h : Hp) (r : Option Value) (h1 : Hp), O mode vs h = some (r, h1) → OG B mode vs h r h1) ∧ OrT (O, B) ∧ OrE (O, B) := by
  refine ⟨fun mode vs h => @dite _ (∃ q : Option Value × Hp, OG B mode vs h q.1 q.2) (Classical.propDecidable _) (fun e => some (Classical.choose e)) (fun _ => none), ?_, ?_, ?_⟩
  · intro mode vs h r h1 e
    dsimp only at e
    by_cases c : ∃ q : Option Value × Hp, OG B mode vs h q.1 q.2
    · rw [dif_pos c] at e
      have e2 := Option.some.inj e
      have e3 := Classical.choose_spec c
      rw [e2] at e3
      exact e3
    · rw [dif_neg c] at e
      cases e
  · intro h x X XI hi hw ck cf rs rx p I hp hB
    have hz : (i32 p).toInt = p := i32_toInt hp
    have c : ∃ q : Option Value × Hp, OG B 10 [.ref x, .int (i32 p)] h q.1 q.2 := ⟨(some (.int (i32 (an_toss hw ck cf p))), if ((0 ≤ p ∧ p ≤ 7) ∧ hw p.toNat = 1) ∧ tss (ck p.toNat) (cf p.toNat) ≠ -15 then hp1 h else h), Or.inl ⟨rfl, x, i32 p, X, XI, hi, hw, ck, cf, rs, rx, rfl, hB, I, by rw [hz], by
      rw [hz]
      by_cases d : ((0 ≤ p ∧ p ≤ 7) ∧ hw p.toNat = 1) ∧ tss (ck p.toNat) (cf p.toNat) ≠ -15
      · rw [if_pos d, if_pos d]
      · rw [if_neg d, if_neg d]⟩⟩
    have s := Classical.choose_spec c
    refine ⟨(Classical.choose c).2, ?_, ?_⟩
    · dsimp only
      rw [dif_pos c]
      rcases s with ⟨-, x2, z2, X2, XI2, hi2, hw2, ck2, cf2, rs2, rx2, e1, e2, e3, e4, e5⟩ | ⟨e, -⟩
      rotate_left
      · cases e
      injection e1 with e1 e6
      injection e6 with e6 e7
      injection e1 with e1
      injection e6 with e6
      subst e1; subst e6
      obtain ⟨-, -, -, ⟨sa, V⟩, -⟩ := I
      obtain ⟨-, -, -, ⟨sa2, V2⟩, -⟩ := e3
      rw [hz, ← rTs_eq V2, rTs_eq V] at e4
      rw [← e4]
    · rcases s with ⟨-, x2, z2, X2, XI2, hi2, hw2, ck2, cf2, rs2, rx2, e1, e2, e3, e4, e5⟩ | ⟨e, -⟩
      rotate_left
      · cases e
      have w : WF h := I.2.2.2.2.1
      split at e5
      · rw [e5]; exact hp1_gr w 0 0
      · rw [e5]; exact Gr.rf w _ _ _ _ |>.wide (Nat.le_refl _) (Nat.le_refl _) (Nat.le_refl _) (Nat.le_refl _)
  · intro h x X XI hi hw ck cf rs rx p q z I hp hq hB hz0
    have hz : (i32 p).toInt = p := i32_toInt hp
    have hy : (i32 q).toInt = q := i32_toInt hq
    have c : ∃ y : Option Value × Hp, OG B 11 [.ref x, .int (i32 p), .int (i32 q), .ref (x + 80)] h y.1 y.2 := ⟨(some (.int (i32 (el_t hw rx p q))), if el_t hw rx p q = 0 then am_put h (x + 80) (21, [.long (i64 (el_v hw rx p q))]) else hp1 h), Or.inr ⟨rfl, x, i32 p, i32 q, z, X, XI, hi, hw, ck, cf, rs, rx, rfl, hB, I, hz0, by rw [hz, hy], by
      rw [hz, hy]
      by_cases d : el_t hw rx p q = 0
      · rw [if_pos d, if_pos d]
      · rw [if_neg d, if_neg d]⟩⟩
    have s := Classical.choose_spec c
    rcases id s with ⟨e, -⟩ | ⟨-, x2, z2, w2, v2, X2, XI2, hi2, hw2, ck2, cf2, rs2, rx2, e1, e2, e3, e3b, e4, e5⟩
    · cases e
    injection e1 with e1 e6
    injection e6 with e6 e7
    injection e7 with e7 e8
    injection e1 with e1
    injection e6 with e6
    injection e7 with e7
    subst e1; subst e6; subst e7
    have w : WF h := I.2.2.2.2.1
    have hxx : x + 81 ≤ h.2.1 := I.2.2.2.2.2
    obtain ⟨-, -, -, ⟨sa, V⟩, -⟩ := I
    obtain ⟨-, -, -, ⟨sa2, V2⟩, -⟩ := e3
    have et : el_t hw2 rx2 p q = el_t hw rx p q := by rw [← rEt_eq V2, rEt_eq V]
    rw [hz, hy] at e4 e5
    rw [et] at e4 e5
    refine ⟨(Classical.choose c).2, ?_, ?_, ?_⟩
    · dsimp only
      rw [dif_pos c]
      rw [← e4]
    · split at e5
      · rw [e5]
        exact ⟨⟨Nat.le_refl _, Nat.le_add_right _ _, Nat.le_refl _, Nat.le_add_right _ _⟩, fun q2 h2 => by
          have h3 : h.2.1 ≤ q2 := h2
          show (if q2 = x + 80 then _ else h.1 q2) = none
          rw [if_neg (by omega)]
          exact w q2 h3, fun q2 v2 h2 e => by
          show (if q2 = x + 80 then _ else h.1 q2) = some v2
          rw [if_neg (by omega)]
          exact e⟩
      · rw [e5]; exact hp1_gr w _ _
    · split at e5
      · rename_i d
        rw [e5]
        refine ⟨i64 (el_v hw2 rx2 p q), if_pos rfl, fun _ => ?_⟩
        rw [← rEv_eq V2 (et.trans d), rEv_eq V d]
      · rename_i d
        rw [e5]
        exact ⟨z, hz0, fun d2 => absurd d2 d⟩
