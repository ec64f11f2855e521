/-! the reference: beside (by program: wip/whole/spec_ru.py) -/
theorem layO_v {n : Nat} : ∀ (j rest u : Nat) {l : List Nat}, layO n j rest u = some l → l.length = j ∧ ∀ i, i < j → l.getD i 0 < n
  | 0, rest, u, l, h => by
    injection h with h
    subst h
    exact ⟨rfl, fun i hi => by omega⟩
  | j + 1, rest, u, l, h => by
    simp only [layO] at h
    cases h1 : nthU n u n (rest / fct j) 0 with
    | none => rw [h1] at h; cases h
    | some c =>
      rw [h1] at h
      dsimp only at h
      cases h2 : layO n j (rest % fct j) (u + 2 ^ c) with
      | none => rw [h2] at h; cases h
      | some l2 =>
        rw [h2] at h
        dsimp only at h
        injection h with h
        subst h
        obtain ⟨y1, y2⟩ := layO_v j _ _ h2
        have hc := (nthU_v _ _ _ h1).1
        refine ⟨by rw [List.length_cons, y1], fun i hi => ?_⟩
        cases i with
        | zero => show c < n; omega
        | succ i => exact y2 i (by omega)
/-- the k-th order -/
def ordr (n k : Nat) : List Nat := (lvs n n 0 []).getD k []
theorem ordr_len {n : Nat} (hn : n ≤ 6) : (lvs n n 0 []).length = fct n := by
  have h := congrArg List.length (lvs_lay n hn)
  rw [List.length_map, List.length_map, List.length_range] at h
  exact h.symm
theorem ordr_lay {n k : Nat} (hn : n ≤ 6) (hk : k < fct n) : layO n n k 0 = some (ordr n k) := by
  have h := congrArg (fun x => x[k]?) (lvs_lay n hn)
  have hl : k < (lvs n n 0 []).length := by rw [ordr_len hn]; exact hk
  simp only [List.getElem?_map, List.getElem?_range hk, Option.map_some, List.getElem?_eq_getElem hl] at h
  injection h with h
  rw [h, ordr, List.getD_eq_getElem?_getD, List.getElem?_eq_getElem hl]
  rfl
theorem ordr_drop {n k : Nat} (hn : n ≤ 6) (hk : k < fct n) : (lvs n n 0 []).drop k = ordr n k :: (lvs n n 0 []).drop (k + 1) := by
  have hl : k < (lvs n n 0 []).length := by rw [ordr_len hn]; exact hk
  rw [List.drop_eq_getElem_cons hl, ordr, List.getD_eq_getElem?_getD, List.getElem?_eq_getElem hl]
  rfl
theorem sumL_r {P : Nat → Int} (hP : ∀ i, 0 ≤ P i ∧ P i ≤ 3) {l : List Nat} (hl : l.length ≤ 6) : 0 ≤ sumL P l ∧ sumL P l ≤ 54 := by
  have := sm_r (f := fun i => P (l.getD i 0) * P (l.getD (i + 1) 0)) (b := 9) (n := 6) (by omega) (fun i _ => ⟨Int.mul_nonneg (hP _).1 (hP _).1, Int.mul_le_mul (hP _).2 (hP _).2 (hP _).1 (by omega)⟩) (l.length - 1) 0 (by omega)
  unfold sumL
  omega
theorem x12_bes_i {E : am_E} {d m n : Nat} {h : Hp} {l : List Nat} {i0 bi bs no k0 : Int} {g K F T S C : Nat → Int} {ρ : Nat → Nat → Int} {kp : Value} {Q : Option Value → Hp → Prop} (M : MAt h m g K F T S C ρ kp) (hn : g 0 = (n : Int)) (hn6 : n ≤ 6) (hK : ∀ i, i < n → (0 ≤ K i ∧ K i ≤ 7) ∧ (0 ≤ F i ∧ F i ≤ 9)) (hl : ∀ i, i < n → l.getD i 0 < n) (hr : ∀ i, i < n → ρ 21 i = ((l.getD i 0 : Nat) : Int)) : ∀ (r q : Nat) (sum : Int), q + 1 + r = n ∨ (n = 0 ∧ q = 0 ∧ r = 0) → (∀ z : Int, Ex E (d + 2) mX12_beside 109 [.ref m, .int (i32 i0), .int (i32 bi), .int (i32 bs), .int (i32 no), .int (i32 k0), .int (i32 (sum + sm (fun i => (fun j => sp_passes (K j)) (l.getD i 0) * (fun j => sp_passes (K j)) (l.getD (i + 1) 0)) q r)), .int (i32 z)] [] h Q) → Ex E (d + 2) mX12_beside 64 [.ref m, .int (i32 i0), .int (i32 bi), .int (i32 bs), .int (i32 no), .int (i32 k0), .int (i32 sum), .int (i32 ((q : Int) + 1))] [] h Q := by
  intro r
  induction r with
  | zero =>
    intro q sum hk kont
    refine Ex_iload dX12_beside_64 rfl rfl ?_
    refine Ex_aload_n dX12_beside_66 rfl rfl ?_
    refine Ex_getf dX12_beside_67 rfl (ma0 M) rfl rfl rfl ?_
    refine Ex_icmp_ge (t := 109) dX12_beside_70 rfl rfl (by omega) (fun c70 => ?_) (fun c70 => absurd c70 (by omega))
    have z := kont ((q : Int) + 1)
    rw [show sum + sm (fun i => (fun j => sp_passes (K j)) (l.getD i 0) * (fun j => sp_passes (K j)) (l.getD (i + 1) 0)) q 0 = sum by show sum + 0 = sum; omega] at z
    exact z
  | succ r ih =>
    intro q sum hk kont
    have hk2 : q + 1 < n := by omega
    have l1 := hl q (by omega)
    have l2 := hl (q + 1) hk2
    have r1 := hr q (by omega)
    have r2 := hr (q + 1) hk2
    refine Ex_iload dX12_beside_64 rfl rfl ?_
    refine Ex_aload_n dX12_beside_66 rfl rfl ?_
    refine Ex_getf dX12_beside_67 rfl (ma0 M) rfl rfl rfl ?_
    refine Ex_icmp_ge (t := 109) dX12_beside_70 rfl rfl (by omega) (fun c70 => absurd c70 (by omega)) (fun c70 => ?_)
    refine Ex_iload dX12_beside_73 rfl rfl ?_
    refine Ex_aload_n dX12_beside_75 rfl rfl ?_
    refine Ex_aload_n dX12_beside_76 rfl rfl ?_
    refine Ex_getf dX12_beside_77 rfl (ma0 M) rfl rfl rfl ?_
    refine Ex_iload dX12_beside_80 rfl rfl ?_
    refine Ex_iconst dX12_beside_82 rfl ?_
    refine Ex_isub dX12_beside_83 rfl ?_
    refine Ex_iald12 (c := q) dX12_beside_84 rfl (ma21 M) (by omega) (by omega) ?_
    rw [r1]
    refine Ex_inv 2 dX12_beside_85 rfl rfl (Or.inl rfl) rfl rfl rfl rfl (ma0 M) rfl rfl rfl (Ex_post (x12_passesOf M hn6 hK (by omega)) ?_)
    rintro _ _ ⟨rfl, e0⟩
    obtain rfl := Eq.symm e0
    refine Ex_aload_n dX12_beside_88 rfl rfl ?_
    refine Ex_aload_n dX12_beside_89 rfl rfl ?_
    refine Ex_getf dX12_beside_90 rfl (ma0 M) rfl rfl rfl ?_
    refine Ex_iload dX12_beside_93 rfl rfl ?_
    refine Ex_iald12 (c := (q + 1)) dX12_beside_95 rfl (ma21 M) (by omega) (by omega) ?_
    rw [r2]
    refine Ex_inv 2 dX12_beside_96 rfl rfl (Or.inl rfl) rfl rfl rfl rfl (ma0 M) rfl rfl rfl (Ex_post (x12_passesOf M hn6 hK (by omega)) ?_)
    rintro _ _ ⟨rfl, e0⟩
    obtain rfl := Eq.symm e0
    refine Ex_imul dX12_beside_99 rfl ?_
    refine Ex_iadd dX12_beside_100 rfl ?_
    refine Ex_istore (L2 := [_, _, _, _, _, _, _, _]) dX12_beside_101 rfl rfl rfl ?_
    refine Ex_iinc (L2 := [_, _, _, _, _, _, _, _]) dX12_beside_103 rfl rfl rfl ?_
    refine Ex_goto (t := 64) dX12_beside_106 rfl ?_
    refine ih (q + 1) _ (by omega) (fun z => ?_)
    have z := kont z
    rw [show sm (fun i => (fun j => sp_passes (K j)) (l.getD i 0) * (fun j => sp_passes (K j)) (l.getD (i + 1) 0)) q (r + 1) = (fun j => sp_passes (K j)) (l.getD q 0) * (fun j => sp_passes (K j)) (l.getD (q + 1) 0) + sm (fun i => (fun j => sp_passes (K j)) (l.getD i 0) * (fun j => sp_passes (K j)) (l.getD (i + 1) 0)) (q + 1) r from rfl, ← Int.add_assoc] at z
    exact z
def BS (n k : Nat) (bi bs : Int) (st : BO) : Prop := st.1 = bs ∧ ((k = 0 ∧ bs = -1 ∧ bi = 0) ∨ (0 < k ∧ 0 ≤ bs ∧ bs ≤ 54 ∧ ∃ b : Nat, bi = (b : Int) ∧ b < fct n ∧ st.2 = fun i => (((ordr n b).getD i 0 : Nat) : Int)))
theorem BS.step {P : Nat → Int} (hP : ∀ i, 0 ≤ P i ∧ P i ≤ 3) {n k : Nat} {bi bs : Int} {st : BO} (hn : n ≤ 6) (hk : k < fct n) (B : BS n k bi bs st) : BS n (k + 1) (if bs < sumL P (ordr n k) then (k : Int) else bi) (if bs < sumL P (ordr n k) then sumL P (ordr n k) else bs) (stL P st (ordr n k)) := by
  obtain ⟨b1, b2⟩ := B
  have hs := sumL_r hP (l := ordr n k) (by rw [(layO_v _ _ _ (ordr_lay hn hk)).1]; exact hn)
  unfold stL
  rw [b1]
  by_cases q : bs < sumL P (ordr n k)
  · rw [if_pos q, if_pos q, if_pos q]
    exact ⟨rfl, Or.inr ⟨by omega, hs.1, hs.2, k, rfl, hk, rfl⟩⟩
  · rw [if_neg q, if_neg q, if_neg q]
    rcases b2 with ⟨c1, c2, c3⟩ | ⟨c1, c2, c3, c4⟩
    · omega
    · exact ⟨b1, Or.inr ⟨by omega, c2, c3, c4⟩⟩
