/-! ALONE: ways through states of TRUST and STEP (21 by the STEP and the TRUST) -/
def nxs (k f : Int) (w q : Nat) : Nat := (21 * sp_ms k f (w : Int) ((q % 21 : Nat) : Int) ((q / 21 : Nat) : Int) + sp_mt k f (w : Int) ((q % 21 : Nat) : Int) ((q / 21 : Nat) : Int)).toNat
theorem nxs_v {k f : Int} (hf : 0 ≤ f ∧ f ≤ 9) {w q : Nat} (hq : q < 147) : ((nxs k f w q : Nat) : Int) = 21 * sp_ms k f (w : Int) ((q % 21 : Nat) : Int) ((q / 21 : Nat) : Int) + sp_mt k f (w : Int) ((q % 21 : Nat) : Int) ((q / 21 : Nat) : Int) ∧ nxs k f w q < 168 := by
  have h1 := sp_mt_r (k := k) (way := (w : Int)) (s := ((q / 21 : Nat) : Int)) (t := ((q % 21 : Nat) : Int)) hf (by omega)
  have h2 := sp_ms_r (k := k) (f := f) (way := (w : Int)) (t := ((q % 21 : Nat) : Int)) (s := ((q / 21 : Nat) : Int)) (by omega)
  unfold nxs
  omega
/-- can one SWIM in n MINUTES, by WAYS from fw on? -/
def Wb (k f : Int) (fw : Nat) : Nat → Nat → Bool
  | 0, q => decide (147 ≤ q)
  | n + 1, q => decide (147 ≤ q) || (decide (fw ≤ 0) && Wb k f fw n (nxs k f 0 q)) || (decide (fw ≤ 1) && Wb k f fw n (nxs k f 1 q)) || (decide (fw ≤ 2) && Wb k f fw n (nxs k f 2 q))
def fl (k f : Int) (fw q n : Nat) : Nat → Int
  | 0 => -4
  | j + 1 => if Wb k f fw n q = true then (n : Int) else fl k f fw q (n + 1) j
/-- the fewest MINUTES, 60 at most; -4 -/
def fewA (k f : Int) (fw q : Nat) : Int := fl k f fw q 0 61
theorem Wb_s {k f : Int} {fw n q : Nat} : Wb k f fw (n + 1) q = true ↔ 147 ≤ q ∨ ∃ w, fw ≤ w ∧ w < 3 ∧ Wb k f fw n (nxs k f w q) = true := by
  simp only [Wb, Bool.or_eq_true, Bool.and_eq_true, decide_eq_true_eq]
  constructor
  · rintro (((h | h) | h) | h)
    · exact Or.inl h
    · exact Or.inr ⟨0, h.1, by omega, h.2⟩
    · exact Or.inr ⟨1, h.1, by omega, h.2⟩
    · exact Or.inr ⟨2, h.1, by omega, h.2⟩
  · rintro (h | ⟨w, h1, h2, h3⟩)
    · exact Or.inl (Or.inl (Or.inl h))
    · rcases (show w = 0 ∨ w = 1 ∨ w = 2 by omega) with e | e | e
      · subst e; exact Or.inl (Or.inl (Or.inr ⟨h1, h3⟩))
      · subst e; exact Or.inl (Or.inr ⟨h1, h3⟩)
      · subst e; exact Or.inr ⟨h1, h3⟩
theorem fl_no {k f : Int} {fw q : Nat} (h : ∀ n, n ≤ 60 → Wb k f fw n q = false) : ∀ (j n : Nat), n + j = 61 → fl k f fw q n j = -4
  | 0, n, _ => rfl
  | j + 1, n, hn => by
    simp only [fl]
    rw [if_neg (by rw [h n (by omega)]; decide)]
    exact fl_no h j (n + 1) (by omega)
theorem fl_yes {k f : Int} {fw q d : Nat} (h : ∀ n, n < d → Wb k f fw n q = false) (hd : Wb k f fw d q = true) (h6 : d ≤ 60) : ∀ (j n : Nat), n + j = 61 → n ≤ d → fl k f fw q n j = (d : Int)
  | 0, n, hn, hnd => by omega
  | j + 1, n, hn, hnd => by
    simp only [fl]
    by_cases e : n = d
    · subst e; rw [if_pos hd]
    · rw [if_neg (by rw [h n (by omega)]; decide)]
      exact fl_yes h hd h6 j (n + 1) (by omega) (by omega)
/-- the least n is d -/
theorem fewA_is {k f : Int} {fw q d : Nat} (h : ∀ n, n < d → Wb k f fw n q = false) (hd : Wb k f fw d q = true) : fewA k f fw q = if (d : Int) ≤ 60 then (d : Int) else -4 := by
  by_cases h6 : d ≤ 60
  · rw [if_pos (by omega)]
    exact fl_yes h hd h6 61 0 (by omega) (by omega)
  · rw [if_neg (by omega)]
    exact fl_no (fun n hn => h n (by omega)) 61 0 (by omega)
theorem fewA_none {k f : Int} {fw q : Nat} (h : ∀ n, Wb k f fw n q = false) : fewA k f fw q = -4 := fl_no (fun n _ => h n) 61 0 (by omega)
theorem fewA_r {k f : Int} {fw q : Nat} : -4 ≤ fewA k f fw q ∧ fewA k f fw q ≤ 60 := by
  have h : ∀ (j n : Nat), n + j = 61 → -4 ≤ fl k f fw q n j ∧ fl k f fw q n j ≤ 60 := by
    intro j
    induction j with
    | zero => intro n _; simp [fl]
    | succ j ih =>
      intro n hn
      simp only [fl]
      split
      · omega
      · exact ih (n + 1) (by omega)
  exact h 61 0 (by omega)
/-! by breadth -/
def cntU (mt : Nat → Int) : Nat → Nat
  | 0 => 0
  | k + 1 => (if mt k = -1 then 1 else 0) + cntU mt k
theorem cntU_pos {mt : Nat → Int} {q : Nat} (hq : mt q = -1) : ∀ k, q < k → 0 < cntU mt k
  | 0, h => by omega
  | k + 1, h => by
    simp only [cntU]
    by_cases e : q = k
    · subst e; rw [if_pos hq]; omega
    · have := cntU_pos hq k (by omega); omega
theorem cntU_cg {mt mt2 : Nat → Int} : ∀ k, (∀ q, q < k → (mt q = -1 ↔ mt2 q = -1)) → cntU mt k = cntU mt2 k
  | 0, _ => rfl
  | k + 1, h => by
    simp only [cntU]
    rw [cntU_cg k (fun q hq => h q (by omega))]
    have := h k (by omega)
    by_cases e : mt k = -1
    · rw [if_pos e, if_pos (this.mp e)]
    · rw [if_neg e, if_neg (fun z => e (this.mpr z))]
theorem cntU_fu {mt : Nat → Int} {q : Nat} {v : Int} (hq : mt q = -1) (hv : v ≠ -1) : ∀ k, q < k → cntU (fu mt q v) k + 1 = cntU mt k
  | 0, h => by omega
  | k + 1, h => by
    simp only [cntU]
    by_cases e : q = k
    · subst e
      rw [fu_at, if_neg hv, if_pos hq, cntU_cg (mt := fu mt q v) (mt2 := mt) q (fun p hp => by rw [fu_ne (by omega)])]
      omega
    · have := cntU_fu hq hv k (by omega)
      rw [fu_ne (show k ≠ q by omega)]
      omega
theorem cntU_all : ∀ k, cntU (fun _ => -1) k = k
  | 0 => rfl
  | k + 1 => by simp only [cntU, if_true, cntU_all k]; omega
def BI (k f : Int) (fw st0 : Nat) (mt : Nat → Int) (qu : Nat → Nat) (e i w : Nat) : Prop :=
  (e ≤ 168 ∧ i ≤ e) ∧ (∀ j, j < e → qu j < 168 ∧ 0 ≤ mt (qu j) ∧ mt (qu j) ≤ (j : Int)) ∧ (∀ q, q < 168 → mt q = -1 ∨ ∃ j, j < e ∧ qu j = q) ∧ (∀ a b, a ≤ b → b < e → mt (qu a) ≤ mt (qu b)) ∧ (i < e → ∀ j, j < e → mt (qu j) ≤ mt (qu i) + 1) ∧
  (∀ j, j < i → qu j < 147 ∧ ∀ v, fw ≤ v → v < 3 → mt (nxs k f v (qu j)) ≠ -1 ∧ mt (nxs k f v (qu j)) ≤ mt (qu j) + 1) ∧ (∀ v, fw ≤ v → v < w → mt (nxs k f v (qu i)) ≠ -1 ∧ mt (nxs k f v (qu i)) ≤ mt (qu i) + 1) ∧
  (∀ j, j < e → ∀ n, Wb k f fw n (qu j) = true → Wb k f fw (n + (mt (qu j)).toNat) st0 = true) ∧ (mt st0 = 0 ∧ st0 < 168) ∧ cntU mt 168 + e = 168
theorem BI.ini {k f : Int} {fw st0 : Nat} (h : st0 < 168) (qu : Nat → Nat) (hq : qu 0 = st0) : BI k f fw st0 (fu (fun _ => -1) st0 0) qu 1 0 fw := by
  have hj : ∀ j, j < 1 → qu j = st0 := fun j hj => by rw [show j = 0 by omega, hq]
  refine ⟨by omega, fun j h1 => ?_, fun q h1 => ?_, fun a b h1 h2 => ?_, fun _ j h1 => ?_, fun j h1 => by omega, fun v h1 h2 => by omega, fun j h1 n h2 => ?_, ⟨fu_at _ _ _, h⟩, ?_⟩
  · rw [hj j h1, fu_at]; omega
  · by_cases e : q = st0
    · exact Or.inr ⟨0, by omega, by rw [hq, e]⟩
    · exact Or.inl (fu_ne e)
  · rw [hj a (by omega), hj b (by omega)]; exact Int.le_refl _
  · rw [hj j (by omega), hq]; omega
  · rw [hj j h1] at h2 ⊢
    rw [fu_at]
    exact h2
  · have := cntU_fu (mt := fun _ => -1) (q := st0) (v := 0) rfl (by decide) 168 h
    rw [cntU_all] at this
    omega
theorem BI.skip {k f : Int} {fw st0 e i w : Nat} {mt : Nat → Int} {qu : Nat → Nat} (b : BI k f fw st0 mt qu e i w) (hie : i < e) (hn : nxs k f w (qu i) < 168) (hm : mt (nxs k f w (qu i)) ≠ -1) : BI k f fw st0 mt qu e i (w + 1) := by
  obtain ⟨b1, b2, b3, b4, b5, b6, b7, b8, b9, b10⟩ := b
  refine ⟨b1, b2, b3, b4, b5, b6, fun v h1 h2 => ?_, b8, b9, b10⟩
  by_cases e1 : v = w
  · subst e1
    refine ⟨hm, ?_⟩
    rcases b3 _ hn with h | ⟨j, hj, e2⟩
    · exact absurd h hm
    · rw [← e2]; exact b5 hie j hj
  · exact b7 v h1 (by omega)
theorem BI.add {k f : Int} {fw st0 e i w : Nat} {mt : Nat → Int} {qu : Nat → Nat} (b : BI k f fw st0 mt qu e i w) (hie : i < e) (hw : fw ≤ w ∧ w < 3) (hn : nxs k f w (qu i) < 168) (hm : mt (nxs k f w (qu i)) = -1) : e < 168 ∧ BI k f fw st0 (fu mt (nxs k f w (qu i)) (mt (qu i) + 1)) (fuN qu e (nxs k f w (qu i))) (e + 1) i (w + 1) := by
  obtain ⟨b1, b2, b3, b4, b5, b6, b7, b8, b9, b10⟩ := b
  obtain ⟨to, hto⟩ : ∃ to, to = nxs k f w (qu i) := ⟨_, rfl⟩
  rw [← hto] at hn hm ⊢
  have hi := b2 i hie
  have hc := cntU_pos hm 168 hn
  have ne : ∀ j, j < e → qu j ≠ to := fun j hj z => by have := (b2 j hj).2.1; rw [z, hm] at this; omega
  have q1 : ∀ j, j < e → fuN qu e to j = qu j := fun j hj => by unfold fuN; rw [if_neg (by omega)]
  have q2 : fuN qu e to e = to := by unfold fuN; rw [if_pos rfl]
  have m1 : ∀ j, j < e → fu mt to (mt (qu i) + 1) (qu j) = mt (qu j) := fun j hj => fu_ne (ne j hj)
  have m2 : ∀ q, mt q ≠ -1 → fu mt to (mt (qu i) + 1) q = mt q := fun q hq => fu_ne (fun z => hq (by rw [z]; exact hm))
  have qi := q1 i hie
  refine ⟨by omega, by omega, fun j hj => ?_, fun q hq => ?_, fun a c h1 h2 => ?_, fun _ j hj => ?_, fun j hj => ?_, fun v h1 h2 => ?_, fun j hj n hW => ?_, ⟨?_, b9.2⟩, ?_⟩
  · by_cases c : j = e
    · subst c; rw [q2, fu_at]; have := hi.2; omega
    · rw [q1 j (by omega), m1 j (by omega)]; exact b2 j (by omega)
  · by_cases c : q = to
    · exact Or.inr ⟨e, by omega, by rw [q2, c]⟩
    · rcases b3 q hq with h | ⟨j, hj, h⟩
      · exact Or.inl (by rw [fu_ne c]; exact h)
      · exact Or.inr ⟨j, by omega, by rw [q1 j hj]; exact h⟩
  · by_cases c2 : c = e
    · subst c2
      rw [q2, fu_at]
      by_cases c3 : a = c
      · subst c3; rw [q2, fu_at]; exact Int.le_refl _
      · rw [q1 a (by omega), m1 a (by omega)]; exact b5 hie a (by omega)
    · rw [q1 a (by omega), q1 c (by omega), m1 a (by omega), m1 c (by omega)]; exact b4 a c h1 (by omega)
  · rw [qi, m1 i hie]
    by_cases c : j = e
    · subst c; rw [q2, fu_at]; exact Int.le_refl _
    · rw [q1 j (by omega), m1 j (by omega)]; exact b5 hie j (by omega)
  · rw [q1 j (by omega), m1 j (by omega)]
    refine ⟨(b6 j hj).1, fun v h1 h2 => ?_⟩
    have := (b6 j hj).2 v h1 h2
    rw [m2 _ this.1]
    exact this
  · rw [qi, m1 i hie]
    by_cases c : v = w
    · subst c
      rw [← hto, fu_at]
      omega
    · have := b7 v h1 (by omega)
      rw [m2 _ this.1]
      exact this
  · by_cases c : j = e
    · subst c
      rw [q2] at hW ⊢
      rw [fu_at]
      by_cases g : 147 ≤ qu i
      · have h0 : Wb k f fw (n + 1) (qu i) = true := Wb_s.mpr (Or.inl g)
        have := b8 i hie _ h0
        rw [show n + (mt (qu i) + 1).toNat = n + 1 + (mt (qu i)).toNat by omega]
        exact this
      · have h0 : Wb k f fw (n + 1) (qu i) = true := Wb_s.mpr (Or.inr ⟨w, hw.1, hw.2, by rw [← hto]; exact hW⟩)
        have := b8 i hie _ h0
        rw [show n + (mt (qu i) + 1).toNat = n + 1 + (mt (qu i)).toNat by omega]
        exact this
    · rw [q1 j (by omega)] at hW ⊢
      rw [m1 j (by omega)]
      exact b8 j (by omega) n hW
  · rw [m2 _ (by rw [b9.1]; decide)]; exact b9.1
  · have := cntU_fu (v := mt (qu i) + 1) hm (by omega) 168 hn
    omega
theorem BI.next {k f : Int} {fw st0 e i : Nat} {mt : Nat → Int} {qu : Nat → Nat} (b : BI k f fw st0 mt qu e i 3) (hie : i < e) (hg : qu i < 147) : BI k f fw st0 mt qu e (i + 1) fw := by
  obtain ⟨b1, b2, b3, b4, b5, b6, b7, b8, b9, b10⟩ := b
  refine ⟨by omega, b2, b3, b4, fun h j hj => ?_, fun j hj => ?_, fun v h1 h2 => by omega, b8, b9, b10⟩
  · have h1 := b5 hie j hj
    have h2 := b4 i (i + 1) (by omega) h
    omega
  · by_cases c : j = i
    · subst c; exact ⟨hg, b7⟩
    · exact b6 j (by omega)
theorem BI.goal {k f : Int} {fw st0 e i w : Nat} {mt : Nat → Int} {qu : Nat → Nat} (hf : 0 ≤ f ∧ f ≤ 9) (b : BI k f fw st0 mt qu e i w) (hie : i < e) (hg : 147 ≤ qu i) : fewA k f fw st0 = if mt (qu i) ≤ 60 then mt (qu i) else -4 := by
  obtain ⟨b1, b2, b3, b4, b5, b6, b7, b8, b9, b10⟩ := b
  have hi := b2 i hie
  have key : ∀ (n q : Nat), q < 168 → mt q ≠ -1 → mt q + (n : Int) < mt (qu i) → Wb k f fw n q = false := by
    intro n
    induction n with
    | zero =>
      intro q hq hm hl
      rcases b3 q hq with h | ⟨j, hj, h⟩
      · exact absurd h hm
      · by_cases c : j < i
        · have := (b6 j c).1
          simp only [Wb]
          exact decide_eq_false (by omega)
        · have := b4 i j (by omega) hj
          rw [h] at this
          omega
    | succ n ih =>
      intro q hq hm hl
      rcases b3 q hq with h | ⟨j, hj, h⟩
      · exact absurd h hm
      · by_cases c : j < i
        · have h6 := b6 j c
          rw [h] at h6
          cases hW : Wb k f fw (n + 1) q with
          | false => rfl
          | true =>
            rcases Wb_s.mp hW with h | ⟨v, h1, h2, h3⟩
            · omega
            · have h7 := h6.2 v h1 h2
              have := ih _ (nxs_v hf h6.1).2 h7.1 (by omega)
              rw [this] at h3
              cases h3
        · have := b4 i j (by omega) hj
          rw [h] at this
          omega
  have h1 : Wb k f fw (mt (qu i)).toNat st0 = true := by
    have := b8 i hie 0 (by simp only [Wb]; exact decide_eq_true hg)
    rw [Nat.zero_add] at this
    exact this
  have h2 : ∀ n, n < (mt (qu i)).toNat → Wb k f fw n st0 = false := fun n hn => key n st0 b9.2 (by rw [b9.1]; decide) (by rw [b9.1]; omega)
  have := fewA_is h2 h1
  rw [this, show (((mt (qu i)).toNat : Nat) : Int) = mt (qu i) by omega]
theorem BI.stop {k f : Int} {fw st0 e w : Nat} {mt : Nat → Int} {qu : Nat → Nat} (hf : 0 ≤ f ∧ f ≤ 9) (b : BI k f fw st0 mt qu e e w) : fewA k f fw st0 = -4 := by
  obtain ⟨b1, b2, b3, b4, b5, b6, b7, b8, b9, b10⟩ := b
  refine fewA_none (fun n => ?_)
  have key : ∀ (n q : Nat), q < 168 → mt q ≠ -1 → Wb k f fw n q = false := by
    intro n
    induction n with
    | zero =>
      intro q hq hm
      rcases b3 q hq with h | ⟨j, hj, h⟩
      · exact absurd h hm
      · have := (b6 j hj).1
        simp only [Wb]
        exact decide_eq_false (by omega)
    | succ n ih =>
      intro q hq hm
      rcases b3 q hq with h | ⟨j, hj, h⟩
      · exact absurd h hm
      · have h6 := b6 j hj
        rw [h] at h6
        cases hW : Wb k f fw (n + 1) q with
        | false => rfl
        | true =>
          rcases Wb_s.mp hW with h | ⟨v, h1, h2, h3⟩
          · omega
          · have := ih _ (nxs_v hf h6.1).2 (h6.2 v h1 h2).1
            rw [this] at h3
            cases h3
  exact key n st0 b9.2 (by rw [b9.1]; decide)
