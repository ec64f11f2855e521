/-! BESIDE (by program: wip/whole/spec_w.py) -/
abbrev BO : Type := Int × (Nat → Int)
def lp (f : Nat → BO → BO) (c : Nat) (st : BO) : Nat → BO
  | 0 => st
  | k + 1 => lp f (c + 1) (f c st) k
/-- what one more behind another brings -/
def psm (P : Nat → Int) (od : Nat → Nat) (p c : Nat) : Int := if p = 0 then 0 else P (od (p - 1)) * P c
/-- orders that go on from the first n - r of od -/
def arr (P : Nat → Int) (n : Nat) : Nat → Nat → (Nat → Nat) → Int → BO → BO
  | 0, _, od, sum, st => if st.1 < sum then (sum, fun i => ((od i : Nat) : Int)) else st
  | r + 1, used, od, sum, st => lp (fun c st => if used.testBit c then st else arr P n r (used + 2 ^ c) (fuN od (n - (r + 1)) c) (sum + psm P od (n - (r + 1)) c) st) 0 st n
def ArI (h : Hp) (x n p : Nat) (hi : Int) (od : Nat → Nat) (st : BO) : Prop := h.1 x = some (ccell x hi st.1) ∧ (∃ f4, h.1 (x + 4) = some (20, fa 6 f4) ∧ ∀ i, i < p → f4 i = ((od i : Nat) : Int)) ∧ (∃ f5, h.1 (x + 5) = some (20, fa 6 f5) ∧ ∀ i, i < n → f5 i = st.2 i)
def FrO (h h1 : Hp) (x : Nat) : Prop := h1.2 = h.2 ∧ ∀ q, q ≠ x → q ≠ x + 4 → q ≠ x + 5 → h1.1 q = h.1 q
theorem FrO.rf (h : Hp) (x : Nat) : FrO h h x := ⟨rfl, fun _ _ _ _ => rfl⟩
theorem FrO.trans {h h1 h2 : Hp} {x : Nat} (a : FrO h h1 x) (b : FrO h1 h2 x) : FrO h h2 x := ⟨b.1.trans a.1, fun q h1 h2 h3 => (b.2 q h1 h2 h3).trans (a.2 q h1 h2 h3)⟩
theorem FrO.frS {h h1 : Hp} {x : Nat} (f : FrO h h1 x) : FrS h h1 x := ⟨f.1, fun q hq => f.2 q (by omega) (by omega) (by omega)⟩
theorem FrO.put {h : Hp} {x a : Nat} (v : OC) (ha : a = x ∨ a = x + 4 ∨ a = x + 5) : FrO h (am_put h a v) x := ⟨rfl, fun q _ _ _ => am_pg2 (by omega)⟩
theorem or_set : ∀ c, c < 6 → ∀ u, u < 64 → Nat.testBit u c = false → i32 ((u : Nat) : Int) ||| i32 ((2 : Int) ^ c) = i32 ((u + 2 ^ c : Nat) : Int) ∧ u + 2 ^ c < 64 := by decide +kernel
theorem cpy_fa {f g : Nat → Int} {n : Nat} (hn : n ≤ 6) : am_cpy (fa 6 f) (fa 6 g) 0 0 n = fa 6 (fun i => if i < n then f i else g i) := by
  rcases (show n = 0 ∨ n = 1 ∨ n = 2 ∨ n = 3 ∨ n = 4 ∨ n = 5 ∨ n = 6 by omega) with e | e | e | e | e | e | e <;> subst e <;> rfl
theorem lp_r {f : Nat → BO → BO} {p : BO → Prop} (hf : ∀ c st, p st → p (f c st)) : ∀ (k c : Nat) (st : BO), p st → p (lp f c st k)
  | 0, c, st, h => h
  | k + 1, c, st, h => lp_r hf k (c + 1) _ (hf c st h)
theorem psm_r {P : Nat → Int} (hP : ∀ i, 0 ≤ P i ∧ P i ≤ 3) {od : Nat → Nat} {p c : Nat} : 0 ≤ psm P od p c ∧ psm P od p c ≤ 9 := by
  unfold psm
  split
  · omega
  · have h1 := hP (od (p - 1))
    have h2 := hP c
    refine ⟨Int.mul_nonneg h1.1 h2.1, ?_⟩
    exact Int.le_trans (Int.mul_le_mul h1.2 h2.2 h2.1 (by omega)) (by omega)
theorem arr_r {P : Nat → Int} (hP : ∀ i, 0 ≤ P i ∧ P i ≤ 3) {n : Nat} (hn : n ≤ 6) : ∀ (r used : Nat) (od : Nat → Nat) (sum : Int) (st : BO), r ≤ n → 0 ≤ sum ∧ sum ≤ 9 * ((n - r : Nat) : Int) → -1 ≤ st.1 ∧ st.1 ≤ 54 → -1 ≤ (arr P n r used od sum st).1 ∧ (arr P n r used od sum st).1 ≤ 54
  | 0, used, od, sum, st, hr, hs, h => by
    simp only [arr]
    split
    · show -1 ≤ sum ∧ sum ≤ 54
      omega
    · exact h
  | r + 1, used, od, sum, st, hr, hs, h => by
    refine lp_r (p := fun st => -1 ≤ st.1 ∧ st.1 ≤ 54) (fun c st h => ?_) n 0 st h
    split
    · exact h
    · have hp := psm_r hP (od := od) (p := n - (r + 1)) (c := c)
      exact arr_r hP hn r _ _ _ _ (by omega) (by omega) h
def an_beside (P : Nat → Int) (n : Nat) (bo : Nat → Int) (i : Int) : Int :=
  if -1 ≤ i ∧ i < (n : Int) then (if i < 0 then (arr P n n 0 (fun _ => 0) 0 (-1, bo)).1 else (arr P n n 0 (fun _ => 0) 0 (-1, bo)).2 i.toNat) else -1
theorem x11_passesOf {E : am_E} {d : Nat} {h : Hp} {x y n c : Nat} {hi bs m tu : Int} {kr : Nat → Nat} {K F T S C : Nat → Int}  (z0 : h.1 x = some (ccell x hi bs)) (R : RailAt h (x + 10) n m tu kr T S C) (ky : KY h y n kr K F) (hc : c < n)  : Ex E d mX11_passesOf 0 [.ref x, .int (i32 (c : Int))] [] h (fun r1 h1 => r1 = some (.int (i32 (sp_passes (K c)))) ∧ h1 = h) := by
  obtain ⟨hr, hA, hP, hG, hn6⟩ := id R
  refine Ex_aload_n dX11_passesOf_0 rfl rfl ?_
  refine Ex_getf dX11_passesOf_1 rfl (by first | exact z0 | exact hr | exact hA | exact hP _ (by omega) | exact (ky _ (by omega)).1.1) rfl rfl rfl ?_
  refine Ex_getf dX11_passesOf_4 rfl (by first | exact z0 | exact hr | exact hA | exact hP _ (by omega) | exact (ky _ (by omega)).1.1) rfl rfl rfl ?_
  refine Ex_iload_n dX11_passesOf_7 rfl rfl ?_
  refine Ex_aald dX11_passesOf_8 rfl (by first | exact z0 | exact hr | exact hA | exact hP _ (by omega) | exact (ky _ (by omega)).1.1) (by omega) (by omega) (rarr_get (by omega)) ?_
  refine Ex_getf dX11_passesOf_9 rfl (by first | exact z0 | exact hr | exact hA | exact hP _ (by omega) | exact (ky _ (by omega)).1.1) rfl rfl rfl ?_
  refine Ex_getf dX11_passesOf_12 rfl (by first | exact z0 | exact hr | exact hA | exact hP _ (by omega) | exact (ky _ (by omega)).1.1) rfl (ktag_in _) rfl ?_
  refine Ex_iret dX11_passesOf_15 rfl rfl ?_
  exact ⟨rfl, rfl⟩
theorem x11_arrange_l {E : am_E} {d r x y n : Nat} {hi m tu : Int} {kr : Nat → Nat} {K F T S C : Nat → Int} (hg : Rng n T S C) (hB : E.2 ≤ x) (hy : x + 57 ≤ y) (hr1 : r + 1 ≤ n) (ihr : ∀ (used : Nat) (od : Nat → Nat) (sum : Int) (st : BO) (h : Hp) (v4 v5 : Value), used < 64 → (∀ i, i < n - r → od i < n) → (0 ≤ sum ∧ sum ≤ 9 * ((n - r : Nat) : Int)) → (-1 ≤ st.1 ∧ st.1 ≤ 54) → ArI h x n (n - r) hi od st → RailAt h (x + 10) n m tu kr T S C → KY h y n kr K F → Ex E (d + r + 2) mX11_arrange 0 [.ref x, .int (i32 ((n - r : Nat) : Int)), .int (i32 (used : Int)), .int (i32 sum), v4, v5] [] h (fun r1 h1 => r1 = none ∧ ArI h1 x n (n - r) hi od (arr (fun j => sp_passes (K j)) n r used od sum st) ∧ FrO h h1 x)) : ∀ (k c used : Nat) (od : Nat → Nat) (sum : Int) (st : BO) (h : Hp) (v5 : Value), c + k = n → used < 64 → (∀ i, i < n - (r + 1) → od i < n) → (0 ≤ sum ∧ sum ≤ 9 * ((n - (r + 1) : Nat) : Int)) → (-1 ≤ st.1 ∧ st.1 ≤ 54) → ArI h x n (n - (r + 1)) hi od st → RailAt h (x + 10) n m tu kr T S C → KY h y n kr K F → Ex E (d + r + 3) mX11_arrange 48 [.ref x, .int (i32 ((n - (r + 1) : Nat) : Int)), .int (i32 (used : Int)), .int (i32 sum), .int (i32 (c : Int)), v5] [] h (fun r1 h1 => r1 = none ∧ ArI h1 x n (n - (r + 1)) hi od (lp (fun c st => if used.testBit c then st else arr (fun j => sp_passes (K j)) n r (used + 2 ^ c) (fuN od (n - (r + 1)) c) (sum + psm (fun j => sp_passes (K j)) od (n - (r + 1)) c) st) c st k) ∧ FrO h h1 x) := by
  intro k
  induction k with
  | zero =>
    intro c used od sum st h v5 hk hu hod hsu hst A R ky
    obtain ⟨a0, ⟨f4, a4, b4⟩, ⟨f5, a5, b5⟩⟩ := id A
    obtain ⟨hr, hA, hP, hG, hn6⟩ := id R
    refine Ex_iload dX11_arrange_48 rfl rfl ?_
    refine Ex_aload_n dX11_arrange_50 rfl rfl ?_
    refine Ex_getf dX11_arrange_51 rfl (by first | exact a0 | exact hr) rfl rfl rfl ?_
    refine Ex_getf dX11_arrange_54 rfl (by first | exact a0 | exact hr) rfl rfl rfl ?_
    refine Ex_icmp_ge (t := 129) dX11_arrange_57 rfl rfl (by omega) (fun c57 => ?_) (fun c57 => absurd c57 (by omega))
    refine Ex_vret dX11_arrange_129 rfl ?_
    exact ⟨rfl, A, FrO.rf _ _⟩
  | succ k ih =>
    intro c used od sum st h v5 hk hu hod hsu hst A R ky
    obtain ⟨a0, ⟨f4, a4, b4⟩, ⟨f5, a5, b5⟩⟩ := id A
    obtain ⟨hr, hA, hP, hG, hn6⟩ := id R
    obtain ⟨p, hp⟩ : ∃ p, p = n - (r + 1) := ⟨_, rfl⟩
    have hpr : n - r = p + 1 := by omega
    rw [← hp] at A b4 hod hsu ⊢
    rw [hpr] at ihr
    have hPK : ∀ i, 0 ≤ ((fun j => sp_passes (K j)) : Nat → Int) i ∧ ((fun j => sp_passes (K j)) : Nat → Int) i ≤ 3 := fun i => sp_passes_r
    have hps := psm_r hPK (od := od) (p := p) (c := c)
    have hp3 := pow2_pos c
    have hp4 : (2 : Int) ^ c ≤ 64 := by rcases (show c = 0 ∨ c = 1 ∨ c = 2 ∨ c = 3 ∨ c = 4 ∨ c = 5 by omega) with rfl | rfl | rfl | rfl | rfl | rfl <;> decide
    have eb : lp (fun c st => if used.testBit c then st else arr (fun j => sp_passes (K j)) n r (used + 2 ^ c) (fuN od p c) (sum + psm (fun j => sp_passes (K j)) od p c) st) c st (k + 1) = lp (fun c st => if used.testBit c then st else arr (fun j => sp_passes (K j)) n r (used + 2 ^ c) (fuN od p c) (sum + psm (fun j => sp_passes (K j)) od p c) st) (c + 1) (if used.testBit c then st else arr (fun j => sp_passes (K j)) n r (used + 2 ^ c) (fuN od p c) (sum + psm (fun j => sp_passes (K j)) od p c) st) k := rfl
    rw [eb]
    cases hb : used.testBit c
    rotate_left
    · refine Ex_iload dX11_arrange_48 rfl rfl ?_
      refine Ex_aload_n dX11_arrange_50 rfl rfl ?_
      refine Ex_getf dX11_arrange_51 rfl (by first | exact a0 | exact hr) rfl rfl rfl ?_
      refine Ex_getf dX11_arrange_54 rfl (by first | exact a0 | exact hr) rfl rfl rfl ?_
      refine Ex_icmp_ge (t := 129) dX11_arrange_57 rfl rfl (by omega) (fun c57 => absurd c57 (by omega)) (fun c57 => ?_)
      refine Ex_iload_n dX11_arrange_60 rfl rfl ?_
      refine Ex_iconst dX11_arrange_61 rfl ?_
      refine Ex_iload dX11_arrange_62 rfl rfl ?_
      refine Ex_ishl (v := ((2 : Int) ^ c)) dX11_arrange_64 rfl (shl_bit c (by omega)) ?_
      refine Ex_iand (v := (if used.testBit c then (2 : Int) ^ c else 0)) dX11_arrange_65 rfl (and_bit c (by omega) used (by omega)) ?_
      refine Ex_if_ne (t := 123) dX11_arrange_66 rfl rfl (by rw [hb, if_pos rfl]; omega) (fun c66 => ?_) (fun c66 => absurd c66 (by rw [hb, if_pos rfl] at c66; omega))
      refine Ex_iinc (L2 := [_, _, _, _, _, _]) dX11_arrange_123 rfl rfl rfl ?_
      refine Ex_goto (t := 48) dX11_arrange_126 rfl ?_
      rw [if_pos rfl]
      have A9 : ArI h x n (n - (r + 1)) hi od st := by rw [← hp]; exact A
      have z := ih (c + 1) used od sum st h v5 (by omega) hu (by rw [← hp]; exact hod) (by rw [← hp]; exact hsu) hst A9 R ky
      rw [← hp] at z
      exact z
    · by_cases hp0 : p = 0
      · refine Ex_iload dX11_arrange_48 rfl rfl ?_
        refine Ex_aload_n dX11_arrange_50 rfl rfl ?_
        refine Ex_getf dX11_arrange_51 rfl (by first | exact a0 | exact hr) rfl rfl rfl ?_
        refine Ex_getf dX11_arrange_54 rfl (by first | exact a0 | exact hr) rfl rfl rfl ?_
        refine Ex_icmp_ge (t := 129) dX11_arrange_57 rfl rfl (by omega) (fun c57 => absurd c57 (by omega)) (fun c57 => ?_)
        refine Ex_iload_n dX11_arrange_60 rfl rfl ?_
        refine Ex_iconst dX11_arrange_61 rfl ?_
        refine Ex_iload dX11_arrange_62 rfl rfl ?_
        refine Ex_ishl (v := ((2 : Int) ^ c)) dX11_arrange_64 rfl (shl_bit c (by omega)) ?_
        refine Ex_iand (v := (if used.testBit c then (2 : Int) ^ c else 0)) dX11_arrange_65 rfl (and_bit c (by omega) used (by omega)) ?_
        refine Ex_if_ne (t := 123) dX11_arrange_66 rfl rfl (by rw [hb]; simp) (fun c66 => absurd c66 (by rw [hb] at c66; simp at c66)) (fun c66 => ?_)
        refine Ex_aload_n dX11_arrange_69 rfl rfl ?_
        refine Ex_getf dX11_arrange_70 rfl a0 rfl rfl rfl ?_
        refine Ex_iload_n dX11_arrange_73 rfl rfl ?_
        refine Ex_iload dX11_arrange_74 rfl rfl ?_
        refine Ex_iast dX11_arrange_76 rfl a4 (by omega) (by rw [fa_len]; show p < 6; omega) (by omega) fa_set ?_
        have f1 : FrO h (am_put h (x + 4) (20, fa 6 (fu f4 p (c : Int)))) x := FrO.put _ (by omega)
        obtain ⟨h9, hh9⟩ : ∃ h9, h9 = am_put h (x + 4) (20, fa 6 (fu f4 p (c : Int))) := ⟨_, rfl⟩
        rw [← hh9] at f1
        rw [show ((p : Nat) : Int).toNat = p from rfl, ← hh9]
        have a09 : h9.1 x = some (ccell x hi st.1) := by rw [hh9]; exact (am_pg2 (by omega)).trans a0
        have a49 : h9.1 (x + 4) = some (20, fa 6 (fu f4 p (c : Int))) := by rw [hh9]; exact am_pg1 _ _ _
        have a59 : h9.1 (x + 5) = some (20, fa 6 f5) := by rw [hh9]; exact (am_pg2 (by omega)).trans a5
        have R9 := R.frS f1.frS
        have ky9 := ky.frS f1.frS hy
        have ho := or_set c (by omega) used hu hb
        have A9 : ArI h9 x n (p + 1) hi (fuN od p c) st := by
          refine ⟨a09, ⟨_, a49, fun i hi => ?_⟩, ⟨f5, a59, b5⟩⟩
          unfold fu fuN
          by_cases e : i = p
          · rw [if_pos e, if_pos e]
          · rw [if_neg e, if_neg e]; exact b4 i (by omega)
        have od9 : ∀ i, i < p + 1 → fuN od p c i < n := by
          intro i hi
          unfold fuN
          split
          · omega
          · exact hod i (by omega)
        
        refine Ex_iload_n dX11_arrange_77 rfl rfl ?_
        refine Ex_if_ne (t := 85) dX11_arrange_78 rfl rfl (by omega) (fun c78 => absurd c78 (by omega)) (fun c78 => ?_)
        refine Ex_iconst dX11_arrange_81 rfl ?_
        refine Ex_goto (t := 104) dX11_arrange_82 rfl ?_
        refine Ex_istore (L2 := [_, _, _, _, _, _]) dX11_arrange_104 rfl rfl rfl ?_
        refine Ex_aload_n dX11_arrange_106 rfl rfl ?_
        refine Ex_iload_n dX11_arrange_107 rfl rfl ?_
        refine Ex_iconst dX11_arrange_108 rfl ?_
        refine Ex_iadd dX11_arrange_109 rfl ?_
        refine Ex_iload_n dX11_arrange_110 rfl rfl ?_
        refine Ex_iconst dX11_arrange_111 rfl ?_
        refine Ex_iload dX11_arrange_112 rfl rfl ?_
        refine Ex_ishl (v := ((2 : Int) ^ c)) dX11_arrange_114 rfl (shl_bit c (by omega)) ?_
        refine Ex_ior (v := ((used + 2 ^ c : Nat) : Int)) dX11_arrange_115 rfl ho.1 ?_
        refine Ex_iload_n dX11_arrange_116 rfl rfl ?_
        skip
        refine Ex_iload dX11_arrange_117 rfl rfl ?_
        refine Ex_iadd dX11_arrange_119 rfl ?_
        rw [show sum + 0 = sum + psm (fun j => sp_passes (K j)) od p c by unfold psm; rw [if_pos hp0], show ((p : Nat) : Int) + 1 = ((p + 1 : Nat) : Int) by omega]
        refine Ex_inv 2 dX11_arrange_120 rfl rfl (Or.inl rfl) rfl rfl rfl rfl a09 rfl rfl rfl (Ex_post (ihr (used + 2 ^ c) (fuN od p c) (sum + psm (fun j => sp_passes (K j)) od p c) st h9 _ _ ho.2 od9 (by omega) hst A9 R9 ky9) ?_)
        rintro _ h8 ⟨rfl, A8, f8⟩
        have hst8 := arr_r hPK hn6 r (used + 2 ^ c) (fuN od p c) (sum + psm (fun j => sp_passes (K j)) od p c) st (by omega) (by omega) hst
        have R8 := R9.frS f8.frS
        have ky8 := ky9.frS f8.frS hy
        refine Ex_iinc (L2 := [_, _, _, _, _, _]) dX11_arrange_123 rfl rfl rfl ?_
        refine Ex_goto (t := 48) dX11_arrange_126 rfl ?_
        obtain ⟨c0, ⟨f48, c4, d4⟩, c5⟩ := A8
        have A7 : ArI h8 x n (n - (r + 1)) hi od (arr (fun j => sp_passes (K j)) n r (used + 2 ^ c) (fuN od p c) (sum + psm (fun j => sp_passes (K j)) od p c) st) := by
          refine ⟨c0, ⟨f48, c4, fun i hi => ?_⟩, c5⟩
          rw [d4 i (by omega)]
          unfold fuN
          rw [if_neg (by omega)]
        rw [if_neg (by decide)]
        have z := fun v9 => ih (c + 1) used od sum _ h8 v9 (by omega) hu (by rw [← hp]; exact hod) (by rw [← hp]; exact hsu) hst8 A7 R8 ky8
        rw [← hp] at z
        refine Ex_post (z _) ?_
        rintro r1 h1 ⟨rfl, y2, y3⟩
        exact ⟨rfl, y2, (f1.trans f8).trans y3⟩
      · refine Ex_iload dX11_arrange_48 rfl rfl ?_
        refine Ex_aload_n dX11_arrange_50 rfl rfl ?_
        refine Ex_getf dX11_arrange_51 rfl (by first | exact a0 | exact hr) rfl rfl rfl ?_
        refine Ex_getf dX11_arrange_54 rfl (by first | exact a0 | exact hr) rfl rfl rfl ?_
        refine Ex_icmp_ge (t := 129) dX11_arrange_57 rfl rfl (by omega) (fun c57 => absurd c57 (by omega)) (fun c57 => ?_)
        refine Ex_iload_n dX11_arrange_60 rfl rfl ?_
        refine Ex_iconst dX11_arrange_61 rfl ?_
        refine Ex_iload dX11_arrange_62 rfl rfl ?_
        refine Ex_ishl (v := ((2 : Int) ^ c)) dX11_arrange_64 rfl (shl_bit c (by omega)) ?_
        refine Ex_iand (v := (if used.testBit c then (2 : Int) ^ c else 0)) dX11_arrange_65 rfl (and_bit c (by omega) used (by omega)) ?_
        refine Ex_if_ne (t := 123) dX11_arrange_66 rfl rfl (by rw [hb]; simp) (fun c66 => absurd c66 (by rw [hb] at c66; simp at c66)) (fun c66 => ?_)
        refine Ex_aload_n dX11_arrange_69 rfl rfl ?_
        refine Ex_getf dX11_arrange_70 rfl a0 rfl rfl rfl ?_
        refine Ex_iload_n dX11_arrange_73 rfl rfl ?_
        refine Ex_iload dX11_arrange_74 rfl rfl ?_
        refine Ex_iast dX11_arrange_76 rfl a4 (by omega) (by rw [fa_len]; show p < 6; omega) (by omega) fa_set ?_
        have f1 : FrO h (am_put h (x + 4) (20, fa 6 (fu f4 p (c : Int)))) x := FrO.put _ (by omega)
        obtain ⟨h9, hh9⟩ : ∃ h9, h9 = am_put h (x + 4) (20, fa 6 (fu f4 p (c : Int))) := ⟨_, rfl⟩
        rw [← hh9] at f1
        rw [show ((p : Nat) : Int).toNat = p from rfl, ← hh9]
        have a09 : h9.1 x = some (ccell x hi st.1) := by rw [hh9]; exact (am_pg2 (by omega)).trans a0
        have a49 : h9.1 (x + 4) = some (20, fa 6 (fu f4 p (c : Int))) := by rw [hh9]; exact am_pg1 _ _ _
        have a59 : h9.1 (x + 5) = some (20, fa 6 f5) := by rw [hh9]; exact (am_pg2 (by omega)).trans a5
        have R9 := R.frS f1.frS
        have ky9 := ky.frS f1.frS hy
        have ho := or_set c (by omega) used hu hb
        have A9 : ArI h9 x n (p + 1) hi (fuN od p c) st := by
          refine ⟨a09, ⟨_, a49, fun i hi => ?_⟩, ⟨f5, a59, b5⟩⟩
          unfold fu fuN
          by_cases e : i = p
          · rw [if_pos e, if_pos e]
          · rw [if_neg e, if_neg e]; exact b4 i (by omega)
        have od9 : ∀ i, i < p + 1 → fuN od p c i < n := by
          intro i hi
          unfold fuN
          split
          · omega
          · exact hod i (by omega)
        
        refine Ex_iload_n dX11_arrange_77 rfl rfl ?_
        refine Ex_if_ne (t := 85) dX11_arrange_78 rfl rfl (by omega) (fun c78 => ?_) (fun c78 => absurd c78 (by omega))
        refine Ex_aload_n dX11_arrange_85 rfl rfl ?_
        refine Ex_aload_n dX11_arrange_86 rfl rfl ?_
        refine Ex_getf dX11_arrange_87 rfl a09 rfl rfl rfl ?_
        refine Ex_iload_n dX11_arrange_90 rfl rfl ?_
        refine Ex_iconst dX11_arrange_91 rfl ?_
        refine Ex_isub dX11_arrange_92 rfl ?_
        rw [show ((p : Nat) : Int) - 1 = ((p - 1 : Nat) : Int) by omega]
        refine Ex_iald dX11_arrange_93 rfl a49 (by omega) (by rw [show (((p - 1 : Nat) : Int)).toNat = p - 1 from rfl, fa_get (by omega), fu_ne (by omega), b4 (p - 1) (by omega)]) ?_
        skip
        refine Ex_inv 2 dX11_arrange_94 rfl rfl (Or.inl rfl) rfl rfl rfl rfl a09 rfl rfl rfl (Ex_post (Ex_d (x11_passesOf (d := 0) a09 R9 ky9 (hod (p - 1) (by omega))) (by omega)) ?_)
        rintro _ _ ⟨rfl, e0⟩
        obtain rfl := Eq.symm e0
        refine Ex_aload_n dX11_arrange_97 rfl rfl ?_
        refine Ex_iload dX11_arrange_98 rfl rfl ?_
        refine Ex_inv 2 dX11_arrange_100 rfl rfl (Or.inl rfl) rfl rfl rfl rfl a09 rfl rfl rfl (Ex_post (Ex_d (x11_passesOf (d := 0) a09 R9 ky9 (show c < n by omega)) (by omega)) ?_)
        rintro _ _ ⟨rfl, e0⟩
        obtain rfl := Eq.symm e0
        refine Ex_imul dX11_arrange_103 rfl ?_
        refine Ex_istore (L2 := [_, _, _, _, _, _]) dX11_arrange_104 rfl rfl rfl ?_
        refine Ex_aload_n dX11_arrange_106 rfl rfl ?_
        refine Ex_iload_n dX11_arrange_107 rfl rfl ?_
        refine Ex_iconst dX11_arrange_108 rfl ?_
        refine Ex_iadd dX11_arrange_109 rfl ?_
        refine Ex_iload_n dX11_arrange_110 rfl rfl ?_
        refine Ex_iconst dX11_arrange_111 rfl ?_
        refine Ex_iload dX11_arrange_112 rfl rfl ?_
        refine Ex_ishl (v := ((2 : Int) ^ c)) dX11_arrange_114 rfl (shl_bit c (by omega)) ?_
        refine Ex_ior (v := ((used + 2 ^ c : Nat) : Int)) dX11_arrange_115 rfl ho.1 ?_
        refine Ex_iload_n dX11_arrange_116 rfl rfl ?_
        refine Ex_iload dX11_arrange_117 rfl rfl ?_
        refine Ex_iadd dX11_arrange_119 rfl ?_
        rw [show sp_passes (K (od (p - 1))) * sp_passes (K c) = psm (fun j => sp_passes (K j)) od p c by unfold psm; rw [if_neg hp0], show ((p : Nat) : Int) + 1 = ((p + 1 : Nat) : Int) by omega]
        refine Ex_inv 2 dX11_arrange_120 rfl rfl (Or.inl rfl) rfl rfl rfl rfl a09 rfl rfl rfl (Ex_post (ihr (used + 2 ^ c) (fuN od p c) (sum + psm (fun j => sp_passes (K j)) od p c) st h9 _ _ ho.2 od9 (by omega) hst A9 R9 ky9) ?_)
        rintro _ h8 ⟨rfl, A8, f8⟩
        have hst8 := arr_r hPK hn6 r (used + 2 ^ c) (fuN od p c) (sum + psm (fun j => sp_passes (K j)) od p c) st (by omega) (by omega) hst
        have R8 := R9.frS f8.frS
        have ky8 := ky9.frS f8.frS hy
        refine Ex_iinc (L2 := [_, _, _, _, _, _]) dX11_arrange_123 rfl rfl rfl ?_
        refine Ex_goto (t := 48) dX11_arrange_126 rfl ?_
        obtain ⟨c0, ⟨f48, c4, d4⟩, c5⟩ := A8
        have A7 : ArI h8 x n (n - (r + 1)) hi od (arr (fun j => sp_passes (K j)) n r (used + 2 ^ c) (fuN od p c) (sum + psm (fun j => sp_passes (K j)) od p c) st) := by
          refine ⟨c0, ⟨f48, c4, fun i hi => ?_⟩, c5⟩
          rw [d4 i (by omega)]
          unfold fuN
          rw [if_neg (by omega)]
        rw [if_neg (by decide)]
        have z := fun v9 => ih (c + 1) used od sum _ h8 v9 (by omega) hu (by rw [← hp]; exact hod) (by rw [← hp]; exact hsu) hst8 A7 R8 ky8
        rw [← hp] at z
        refine Ex_post (z _) ?_
        rintro r1 h1 ⟨rfl, y2, y3⟩
        exact ⟨rfl, y2, (f1.trans f8).trans y3⟩
theorem x11_arrange {E : am_E} {d x y n : Nat} {hi m tu : Int} {kr : Nat → Nat} {K F T S C : Nat → Int} (hg : Rng n T S C) (hB : E.2 ≤ x) (hy : x + 57 ≤ y) : ∀ (r : Nat), r ≤ n → ∀ (used : Nat) (od : Nat → Nat) (sum : Int) (st : BO) (h : Hp) (v4 v5 : Value), used < 64 → (∀ i, i < n - r → od i < n) → (0 ≤ sum ∧ sum ≤ 9 * ((n - r : Nat) : Int)) → (-1 ≤ st.1 ∧ st.1 ≤ 54) → ArI h x n (n - r) hi od st → RailAt h (x + 10) n m tu kr T S C → KY h y n kr K F → Ex E (d + r + 2) mX11_arrange 0 [.ref x, .int (i32 ((n - r : Nat) : Int)), .int (i32 (used : Int)), .int (i32 sum), v4, v5] [] h (fun r1 h1 => r1 = none ∧ ArI h1 x n (n - r) hi od (arr (fun j => sp_passes (K j)) n r used od sum st) ∧ FrO h h1 x) := by
  intro r
  induction r with
  | zero =>
    intro hrn used od sum st h v4 v5 hu hod hsu hst A R ky
    obtain ⟨a0, ⟨f4, a4, b4⟩, ⟨f5, a5, b5⟩⟩ := id A
    obtain ⟨hr, hA, hP, hG, hn6⟩ := id R
    by_cases q : st.1 < sum
    · refine Ex_iload_n dX11_arrange_0 rfl rfl ?_
      refine Ex_aload_n dX11_arrange_1 rfl rfl ?_
      refine Ex_getf dX11_arrange_2 rfl (by first | exact a0 | exact hr | exact am_pg1 _ _ _ | exact (am_pg2 (by omega)).trans hr) rfl rfl rfl ?_
      refine Ex_getf dX11_arrange_5 rfl (by first | exact a0 | exact hr | exact am_pg1 _ _ _ | exact (am_pg2 (by omega)).trans hr) rfl rfl rfl ?_
      refine Ex_icmp_lt (t := 45) dX11_arrange_8 rfl rfl (by omega) (fun c8 => absurd c8 (by omega)) (fun c8 => ?_)
      refine Ex_iload_n dX11_arrange_11 rfl rfl ?_
      refine Ex_aload_n dX11_arrange_12 rfl rfl ?_
      refine Ex_getf dX11_arrange_13 rfl (by first | exact a0 | exact hr | exact am_pg1 _ _ _ | exact (am_pg2 (by omega)).trans hr) rfl rfl rfl ?_
      refine Ex_icmp_le (t := 44) dX11_arrange_16 rfl rfl (by omega) (fun c16 => absurd c16 (by omega)) (fun c16 => ?_)
      refine Ex_aload_n dX11_arrange_19 rfl rfl ?_
      refine Ex_iload_n dX11_arrange_20 rfl rfl ?_
      refine Ex_putf (fs2 := [_, _, _, _, _, _, _, _, _, _, _, _, _]) dX11_arrange_21 rfl (by first | exact a0 | exact hr | exact am_pg1 _ _ _ | exact (am_pg2 (by omega)).trans hr) rfl rfl rfl rfl rfl (by omega) rfl ?_
      try rw [am_put2]
      refine Ex_aload_n dX11_arrange_24 rfl rfl ?_
      refine Ex_getf dX11_arrange_25 rfl (by first | exact a0 | exact hr | exact am_pg1 _ _ _ | exact (am_pg2 (by omega)).trans hr) rfl rfl rfl ?_
      refine Ex_iconst dX11_arrange_28 rfl ?_
      refine Ex_aload_n dX11_arrange_29 rfl rfl ?_
      refine Ex_getf dX11_arrange_30 rfl (by first | exact a0 | exact hr | exact am_pg1 _ _ _ | exact (am_pg2 (by omega)).trans hr) rfl rfl rfl ?_
      refine Ex_iconst dX11_arrange_33 rfl ?_
      refine Ex_aload_n dX11_arrange_34 rfl rfl ?_
      refine Ex_getf dX11_arrange_35 rfl (by first | exact a0 | exact hr | exact am_pg1 _ _ _ | exact (am_pg2 (by omega)).trans hr) rfl rfl rfl ?_
      refine Ex_getf dX11_arrange_38 rfl (by first | exact a0 | exact hr | exact am_pg1 _ _ _ | exact (am_pg2 (by omega)).trans hr) rfl rfl rfl ?_
      refine Ex_copy dX11_arrange_41 rfl rfl rfl ((am_pg2 (by omega)).trans a4) ((am_pg2 (by omega)).trans a5) (by omega) (by omega) (by omega) (by rw [fa_len]; show 0 + n ≤ 6; omega) (by rw [fa_len]; show 0 + n ≤ 6; omega) (fa_all _ _) (fa_all _ _) (by omega) (cpy_fa (n := n) hn6) ?_
      refine Ex_vret dX11_arrange_44 rfl ?_
      have e1 : arr (fun j => sp_passes (K j)) n 0 used od sum st = (sum, fun i => ((od i : Nat) : Int)) := if_pos q
      rw [e1]
      refine ⟨rfl, ⟨(am_pg2 (by omega)).trans (am_pg1 _ _ _), ⟨f4, (am_pg2 (by omega)).trans ((am_pg2 (by omega)).trans a4), b4⟩, ⟨_, am_pg1 _ _ _, fun i hi => ?_⟩⟩, (FrO.put _ (by omega)).trans (FrO.put _ (by omega))⟩
      show (if i < n then f4 i else f5 i) = ((od i : Nat) : Int)
      rw [if_pos hi]
      exact b4 i (by omega)
    · refine Ex_iload_n dX11_arrange_0 rfl rfl ?_
      refine Ex_aload_n dX11_arrange_1 rfl rfl ?_
      refine Ex_getf dX11_arrange_2 rfl (by first | exact a0 | exact hr | exact am_pg1 _ _ _ | exact (am_pg2 (by omega)).trans hr) rfl rfl rfl ?_
      refine Ex_getf dX11_arrange_5 rfl (by first | exact a0 | exact hr | exact am_pg1 _ _ _ | exact (am_pg2 (by omega)).trans hr) rfl rfl rfl ?_
      refine Ex_icmp_lt (t := 45) dX11_arrange_8 rfl rfl (by omega) (fun c8 => absurd c8 (by omega)) (fun c8 => ?_)
      refine Ex_iload_n dX11_arrange_11 rfl rfl ?_
      refine Ex_aload_n dX11_arrange_12 rfl rfl ?_
      refine Ex_getf dX11_arrange_13 rfl (by first | exact a0 | exact hr | exact am_pg1 _ _ _ | exact (am_pg2 (by omega)).trans hr) rfl rfl rfl ?_
      refine Ex_icmp_le (t := 44) dX11_arrange_16 rfl rfl (by omega) (fun c16 => ?_) (fun c16 => absurd c16 (by omega))
      refine Ex_vret dX11_arrange_44 rfl ?_
      have e1 : arr (fun j => sp_passes (K j)) n 0 used od sum st = st := if_neg q
      rw [e1]
      exact ⟨rfl, A, FrO.rf _ _⟩
  | succ r ih =>
    intro hrn used od sum st h v4 v5 hu hod hsu hst A R ky
    obtain ⟨a0, ⟨f4, a4, b4⟩, ⟨f5, a5, b5⟩⟩ := id A
    obtain ⟨hr, hA, hP, hG, hn6⟩ := id R
    refine Ex_iload_n dX11_arrange_0 rfl rfl ?_
    refine Ex_aload_n dX11_arrange_1 rfl rfl ?_
    refine Ex_getf dX11_arrange_2 rfl (by first | exact a0 | exact hr | exact am_pg1 _ _ _ | exact (am_pg2 (by omega)).trans hr) rfl rfl rfl ?_
    refine Ex_getf dX11_arrange_5 rfl (by first | exact a0 | exact hr | exact am_pg1 _ _ _ | exact (am_pg2 (by omega)).trans hr) rfl rfl rfl ?_
    refine Ex_icmp_lt (t := 45) dX11_arrange_8 rfl rfl (by omega) (fun c8 => ?_) (fun c8 => absurd c8 (by omega))
    refine Ex_iconst dX11_arrange_45 rfl ?_
    refine Ex_istore (L2 := [_, _, _, _, _, _]) dX11_arrange_46 rfl rfl rfl ?_
    exact x11_arrange_l hg hB hy hrn (ih (by omega)) n 0 used od sum st h _ (by omega) hu hod hsu hst A R ky
theorem x11_beside {E : am_E} {d : Nat} {h : Hp} {x y n : Nat} {hi m tu : Int} {kr : Nat → Nat} {K F T S C : Nat → Int} {i : Int}  (Z : Scr h x hi) (R : RailAt h (x + 10) n m tu kr T S C) (hg : Rng n T S C) (ky : KY h y n kr K F) (hB : E.2 ≤ x) (hy : x + 57 ≤ y) (hii : (-2147483648 ≤ i ∧ i ≤ 2147483647))  : Ex E (d + 9) mX11_beside 0 [.ref x, .int (i32 i)] [] h (fun r1 h1 => ∃ bo, Qs h h1 x hi (an_beside (fun j => sp_passes (K j)) n bo i) r1) := by
  obtain ⟨⟨bs, z0⟩, z1, ⟨f2, z2⟩, ⟨f3, z3⟩, ⟨f4, z4⟩, ⟨f5, z5⟩, zr0, zr1, zr2, ⟨k5, t5, s5, c5', z55⟩, ⟨k6, t6, s6, c6, z56⟩⟩ := id Z
  obtain ⟨hr, hA, hP, hG, hn6⟩ := id R
  have kk := ky.ok (r := x + 10) (by omega)
  by_cases q : -1 ≤ i ∧ i < (n : Int)
  · obtain ⟨h9, hh9⟩ : ∃ h9, h9 = am_put h x (ccell x hi (-1)) := ⟨_, rfl⟩
    have f1 : FrO h h9 x := by rw [hh9]; exact FrO.put _ (by omega)
    have R9 := R.frS f1.frS
    have ky9 := ky.frS f1.frS hy
    have A9 : ArI h9 x n (n - n) hi (fun _ => 0) (-1, f5) := ⟨by rw [hh9]; exact am_pg1 _ _ _, ⟨f4, by rw [hh9]; exact (am_pg2 (by omega)).trans z4, fun j hj => absurd hj (by omega)⟩, ⟨f5, by rw [hh9]; exact (am_pg2 (by omega)).trans z5, fun j _ => rfl⟩⟩
    have ea : an_beside (fun j => sp_passes (K j)) n f5 i = if i < 0 then (arr (fun j => sp_passes (K j)) n n 0 (fun _ => 0) 0 (-1, f5)).1 else (arr (fun j => sp_passes (K j)) n n 0 (fun _ => 0) 0 (-1, f5)).2 i.toNat := by unfold an_beside; exact if_pos q
    by_cases q2 : i < 0
    · refine Ex_iload_n dX11_beside_0 rfl rfl ?_
      refine Ex_iconst dX11_beside_1 rfl ?_
      refine Ex_icmp_lt (t := 16) dX11_beside_2 rfl rfl (by omega) (fun c2 => absurd c2 (by omega)) (fun c2 => ?_)
      refine Ex_iload_n dX11_beside_5 rfl rfl ?_
      refine Ex_aload_n dX11_beside_6 rfl rfl ?_
      refine Ex_getf dX11_beside_7 rfl (by first | exact z0 | exact hr | exact c0 | exact c5) rfl rfl rfl ?_
      refine Ex_getf dX11_beside_10 rfl (by first | exact z0 | exact hr | exact c0 | exact c5) rfl rfl rfl ?_
      refine Ex_icmp_lt (t := 18) dX11_beside_13 rfl rfl (by omega) (fun c13 => ?_) (fun c13 => absurd c13 (by omega))
      refine Ex_aload_n dX11_beside_18 rfl rfl ?_
      refine Ex_iconst dX11_beside_19 rfl ?_
      refine Ex_putf (fs2 := [_, _, _, _, _, _, _, _, _, _, _, _, _]) dX11_beside_20 rfl z0 rfl rfl rfl rfl rfl (by omega) rfl ?_
      rw [← hh9]
      refine Ex_aload_n dX11_beside_23 rfl rfl ?_
      refine Ex_iconst dX11_beside_24 rfl ?_
      refine Ex_iconst dX11_beside_25 rfl ?_
      refine Ex_iconst dX11_beside_26 rfl ?_
      skip
      refine Ex_inv 2 dX11_beside_27 rfl rfl (Or.inl rfl) rfl rfl rfl rfl A9.1 rfl rfl rfl (Ex_post (Ex_d (d := 0 + n + 2) (by have z := x11_arrange (E := E) (d := 0) hg hB hy n (Nat.le_refl _) 0 (fun _ => 0) 0 (-1, f5) h9 (.retAddr 0) (.retAddr 0) (by omega) (fun j hj => absurd hj (by omega)) (by omega) (by show -1 ≤ (-1 : Int) ∧ (-1 : Int) ≤ 54; omega) A9 R9 ky9; rw [show ((n - n : Nat) : Int) = 0 by omega] at z; exact z) (by omega)) ?_)
      rintro _ h8 ⟨rfl, ⟨c0, ⟨g4, c4, d4⟩, ⟨g5, c5, d5⟩⟩, f8⟩
      have fT := f1.trans f8
      have Z8 : Scr h8 x hi := ⟨⟨_, c0⟩, (fT.2 _ (by omega) (by omega) (by omega)).trans z1, ⟨f2, (fT.2 _ (by omega) (by omega) (by omega)).trans z2⟩, ⟨f3, (fT.2 _ (by omega) (by omega) (by omega)).trans z3⟩, ⟨g4, c4⟩, ⟨g5, c5⟩, zr0.eq (fun q _ _ => fT.2 q (by omega) (by omega) (by omega)), zr1.eq (fun q _ _ => fT.2 q (by omega) (by omega) (by omega)), zr2.eq (fun q _ _ => fT.2 q (by omega) (by omega) (by omega)), PupAny.eq ⟨k5, t5, s5, c5', z55⟩ (fT.2 _ (by omega) (by omega) (by omega)), PupAny.eq ⟨k6, t6, s6, c6, z56⟩ (fT.2 _ (by omega) (by omega) (by omega))⟩
      refine Ex_iload_n dX11_beside_30 rfl rfl ?_
      refine Ex_if_ge (t := 41) dX11_beside_31 rfl rfl (by omega) (fun c31 => absurd c31 (by omega)) (fun c31 => ?_)
      refine Ex_aload_n dX11_beside_34 rfl rfl ?_
      refine Ex_getf dX11_beside_35 rfl (by first | exact z0 | exact hr | exact c0 | exact c5) rfl rfl rfl ?_
      refine Ex_goto (t := 47) dX11_beside_38 rfl ?_
      refine Ex_iret dX11_beside_47 rfl rfl ?_
      refine ⟨f5, ri ?_, Z8, fT.frS⟩
      rw [ea, if_pos q2]
    · refine Ex_iload_n dX11_beside_0 rfl rfl ?_
      refine Ex_iconst dX11_beside_1 rfl ?_
      refine Ex_icmp_lt (t := 16) dX11_beside_2 rfl rfl (by omega) (fun c2 => absurd c2 (by omega)) (fun c2 => ?_)
      refine Ex_iload_n dX11_beside_5 rfl rfl ?_
      refine Ex_aload_n dX11_beside_6 rfl rfl ?_
      refine Ex_getf dX11_beside_7 rfl (by first | exact z0 | exact hr | exact c0 | exact c5) rfl rfl rfl ?_
      refine Ex_getf dX11_beside_10 rfl (by first | exact z0 | exact hr | exact c0 | exact c5) rfl rfl rfl ?_
      refine Ex_icmp_lt (t := 18) dX11_beside_13 rfl rfl (by omega) (fun c13 => ?_) (fun c13 => absurd c13 (by omega))
      refine Ex_aload_n dX11_beside_18 rfl rfl ?_
      refine Ex_iconst dX11_beside_19 rfl ?_
      refine Ex_putf (fs2 := [_, _, _, _, _, _, _, _, _, _, _, _, _]) dX11_beside_20 rfl z0 rfl rfl rfl rfl rfl (by omega) rfl ?_
      rw [← hh9]
      refine Ex_aload_n dX11_beside_23 rfl rfl ?_
      refine Ex_iconst dX11_beside_24 rfl ?_
      refine Ex_iconst dX11_beside_25 rfl ?_
      refine Ex_iconst dX11_beside_26 rfl ?_
      skip
      refine Ex_inv 2 dX11_beside_27 rfl rfl (Or.inl rfl) rfl rfl rfl rfl A9.1 rfl rfl rfl (Ex_post (Ex_d (d := 0 + n + 2) (by have z := x11_arrange (E := E) (d := 0) hg hB hy n (Nat.le_refl _) 0 (fun _ => 0) 0 (-1, f5) h9 (.retAddr 0) (.retAddr 0) (by omega) (fun j hj => absurd hj (by omega)) (by omega) (by show -1 ≤ (-1 : Int) ∧ (-1 : Int) ≤ 54; omega) A9 R9 ky9; rw [show ((n - n : Nat) : Int) = 0 by omega] at z; exact z) (by omega)) ?_)
      rintro _ h8 ⟨rfl, ⟨c0, ⟨g4, c4, d4⟩, ⟨g5, c5, d5⟩⟩, f8⟩
      have fT := f1.trans f8
      have Z8 : Scr h8 x hi := ⟨⟨_, c0⟩, (fT.2 _ (by omega) (by omega) (by omega)).trans z1, ⟨f2, (fT.2 _ (by omega) (by omega) (by omega)).trans z2⟩, ⟨f3, (fT.2 _ (by omega) (by omega) (by omega)).trans z3⟩, ⟨g4, c4⟩, ⟨g5, c5⟩, zr0.eq (fun q _ _ => fT.2 q (by omega) (by omega) (by omega)), zr1.eq (fun q _ _ => fT.2 q (by omega) (by omega) (by omega)), zr2.eq (fun q _ _ => fT.2 q (by omega) (by omega) (by omega)), PupAny.eq ⟨k5, t5, s5, c5', z55⟩ (fT.2 _ (by omega) (by omega) (by omega)), PupAny.eq ⟨k6, t6, s6, c6, z56⟩ (fT.2 _ (by omega) (by omega) (by omega))⟩
      refine Ex_iload_n dX11_beside_30 rfl rfl ?_
      refine Ex_if_ge (t := 41) dX11_beside_31 rfl rfl (by omega) (fun c31 => ?_) (fun c31 => absurd c31 (by omega))
      refine Ex_aload_n dX11_beside_41 rfl rfl ?_
      refine Ex_getf dX11_beside_42 rfl (by first | exact z0 | exact hr | exact c0 | exact c5) rfl rfl rfl ?_
      refine Ex_iload_n dX11_beside_45 rfl rfl ?_
      refine Ex_iald dX11_beside_46 rfl (by first | exact z0 | exact hr | exact c0 | exact c5) (by omega) (by rw [fa_get (by omega), d5 _ (by omega)]) ?_
      refine Ex_iret dX11_beside_47 rfl rfl ?_
      refine ⟨f5, ri ?_, Z8, fT.frS⟩
      rw [ea, if_neg q2]
  · refine Ex_iload_n dX11_beside_0 rfl rfl ?_
    refine Ex_iconst dX11_beside_1 rfl ?_
    refine Ex_icmp_lt (t := 16) dX11_beside_2 rfl rfl (by omega) (fun c2 => ?_) (fun c2 => ?_)
    · refine Ex_iconst dX11_beside_16 rfl ?_
      refine Ex_iret dX11_beside_17 rfl rfl ?_
      exact ⟨f5, Qs.same Z (by unfold an_beside; rw [if_neg q])⟩
    · refine Ex_iload_n dX11_beside_5 rfl rfl ?_
      refine Ex_aload_n dX11_beside_6 rfl rfl ?_
      refine Ex_getf dX11_beside_7 rfl (by first | exact z0 | exact hr) rfl rfl rfl ?_
      refine Ex_getf dX11_beside_10 rfl (by first | exact z0 | exact hr) rfl rfl rfl ?_
      refine Ex_icmp_lt (t := 18) dX11_beside_13 rfl rfl (by omega) (fun c13 => ?_) (fun c13 => ?_)
      · exfalso; omega
      · refine Ex_iconst dX11_beside_16 rfl ?_
        refine Ex_iret dX11_beside_17 rfl rfl ?_
        exact ⟨f5, Qs.same Z (by unfold an_beside; rw [if_neg q])⟩
