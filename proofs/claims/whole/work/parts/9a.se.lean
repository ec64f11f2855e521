/-! MOST STEPS: the reference's search depth first, and the class's (by hand) -/
def up2 (v code : Int) (s : Int × Int) : Int × Int := if s.1 < v then (v, code) else s
/-- the choices of a node, from j on, k of them -/
def lfJ (φ : Nat → RS → Int × Int → Int × Int) (X : RS) (j : Nat) (s : Int × Int) : Nat → Int × Int
  | 0 => s
  | k + 1 => if X.2.2.2.2.2.1 (j / 3) = 7 then lfJ φ X (j + 1) s k else lfJ φ X (j + 1) (φ j (rsM (j / 3) ((j % 3 : Nat) : Int) X) s) k
/-- a node reached by a minute, with some more left -/
def lf : Nat → Int → RS → Int × Int → Int × Int
  | 0, code, X, s => up2 (stp X) code s
  | l + 1, code, X, s => if nch X.2.2.2.2.2.1 0 (3 * X.1) < 0 then up2 (stp X) code s else lfJ (fun _ => lf l code) X 0 s (3 * X.1)
def cd (j : Nat) : Int := 10 * ((j / 3 : Nat) : Int) + ((j % 3 : Nat) : Int)
/-- the most of a node -/
def rl : Nat → RS → Int
  | 0, X => stp X
  | l + 1, X => if nch X.2.2.2.2.2.1 0 (3 * X.1) < 0 then stp X else msJ (rl l) X 0 (-1) (3 * X.1)
theorem RX.s7 {X : RS} (h : RX X) {c : Nat} (hc : c < X.1) : X.2.2.2.2.2.1 c = 7 ∨ X.2.2.2.2.2.1 c < 7 := by
  have := (h.1 c hc).2.1
  omega
theorem msJ_ge {g : RS → Int} {X : RS} : ∀ (k j : Nat) (most : Int), most ≤ msJ g X j most k
  | 0, j, most => Int.le_refl _
  | k + 1, j, most => by
    simp only [msJ]
    split
    · have := msJ_ge (g := g) (X := X) k (j + 1) (max most (g (rsM (j / 3) ((j % 3 : Nat) : Int) X)))
      omega
    · exact msJ_ge k (j + 1) most
theorem msJ_max {g : RS → Int} {X : RS} : ∀ (k j : Nat) (a b : Int), msJ g X j (max a b) k = max a (msJ g X j b k)
  | 0, j, a, b => rfl
  | k + 1, j, a, b => by
    simp only [msJ]
    split
    · rw [show max (max a b) (g (rsM (j / 3) ((j % 3 : Nat) : Int) X)) = max a (max b (g (rsM (j / 3) ((j % 3 : Nat) : Int) X))) by omega]
      exact msJ_max k (j + 1) a _
    · exact msJ_max k (j + 1) a b
theorem msJ_cg {g g2 : RS → Int} {X : RS} (hX : RX X) (h : ∀ (c : Nat) (w : Int), c < X.1 → X.2.2.2.2.2.1 c < 7 → g (rsM c w X) = g2 (rsM c w X)) : ∀ (k j : Nat) (a : Int), j + k ≤ 3 * X.1 → msJ g X j a k = msJ g2 X j a k
  | 0, j, a, _ => rfl
  | k + 1, j, a, hj => by
    simp only [msJ]
    split
    · rename_i q
      rw [h (j / 3) _ (by omega) q]
      exact msJ_cg hX h k (j + 1) _ (by omega)
    · exact msJ_cg hX h k (j + 1) a (by omega)
/-- a fold of the search with one code -/
theorem lfJ_up {g : RS → Int} {X : RS} {code : Int} (hX : RX X) : ∀ (k j : Nat) (s : Int × Int), j + k ≤ 3 * X.1 → lfJ (fun _ Y s => up2 (g Y) code s) X j s k = up2 (msJ g X j s.1 k) code s
  | 0, j, s, _ => by
    show s = up2 s.1 code s
    unfold up2
    rw [if_neg (by omega)]
  | k + 1, j, s, hj => by
    simp only [lfJ, msJ]
    rcases hX.s7 (c := j / 3) (by omega) with q | q
    · rw [if_pos q, if_neg (by omega)]
      exact lfJ_up hX k (j + 1) s (by omega)
    · rw [if_neg (by omega), if_pos q, lfJ_up hX k (j + 1) _ (by omega)]
      generalize g (rsM (j / 3) ((j % 3 : Nat) : Int) X) = v
      have hge := msJ_ge (g := g) (X := X) k (j + 1) (max s.1 v)
      unfold up2
      by_cases c : s.1 < v
      · rw [if_pos c]
        rw [show max s.1 v = v by omega] at hge ⊢
        show (if v < msJ g X (j + 1) v k then _ else (v, code)) = _
        by_cases c2 : v < msJ g X (j + 1) v k
        · rw [if_pos c2, if_pos (by omega)]
        · rw [if_neg c2, if_pos (by omega), show msJ g X (j + 1) v k = v by omega]
      · rw [if_neg c, show max s.1 v = s.1 by omega]
theorem lfJ_top {g : RS → Int} {X : RS} (hX : RX X) : ∀ (k j : Nat) (s : Int × Int), j + k ≤ 3 * X.1 → lfJ (fun j Y s => up2 (g Y) (cd j) s) X j s k = if s.1 < msJ g X j s.1 k then (msJ g X j s.1 k, fmJ g X j (msJ g X j s.1 k) k) else s
  | 0, j, s, _ => by
    show s = if s.1 < s.1 then _ else s
    rw [if_neg (by omega)]
  | k + 1, j, s, hj => by
    rcases hX.s7 (c := j / 3) (by omega) with q | q
    · have em : ∀ a, msJ g X j a (k + 1) = msJ g X (j + 1) a k := fun a => if_neg (by omega)
      have ef : ∀ a, fmJ g X j a (k + 1) = fmJ g X (j + 1) a k := fun a => if_neg (by omega)
      have el : lfJ (fun j Y s => up2 (g Y) (cd j) s) X j s (k + 1) = lfJ (fun j Y s => up2 (g Y) (cd j) s) X (j + 1) s k := if_pos q
      rw [em, ef, el]
      exact lfJ_top hX k (j + 1) s (by omega)
    · obtain ⟨v, ev⟩ : ∃ v, v = g (rsM (j / 3) ((j % 3 : Nat) : Int) X) := ⟨_, rfl⟩
      have em : msJ g X j s.1 (k + 1) = msJ g X (j + 1) (max s.1 v) k := by rw [ev]; exact if_pos q
      have ef : ∀ a, fmJ g X j a (k + 1) = if v = a then cd j else fmJ g X (j + 1) a k := fun a => by rw [ev]; exact if_pos q
      have el : lfJ (fun j Y s => up2 (g Y) (cd j) s) X j s (k + 1) = lfJ (fun j Y s => up2 (g Y) (cd j) s) X (j + 1) (up2 v (cd j) s) k := by rw [ev]; exact if_neg (by omega)
      rw [em, ef, el, lfJ_top hX k (j + 1) _ (by omega)]
      have hge := msJ_ge (g := g) (X := X) k (j + 1) (max s.1 v)
      unfold up2
      by_cases c : s.1 < v
      · rw [if_pos c]
        rw [show max s.1 v = v by omega] at hge ⊢
        show (if v < msJ g X (j + 1) v k then (msJ g X (j + 1) v k, fmJ g X (j + 1) (msJ g X (j + 1) v k) k) else (v, cd j)) = _
        by_cases c2 : v < msJ g X (j + 1) v k
        · rw [if_pos c2, if_pos (by omega), if_neg (by omega)]
        · have e : msJ g X (j + 1) v k = v := by omega
          rw [if_neg c2, e, if_pos c, if_pos rfl]
      · rw [if_neg c, show max s.1 v = s.1 by omega]
        by_cases c2 : s.1 < msJ g X (j + 1) s.1 k
        · rw [if_pos c2, if_pos c2, if_neg (by omega)]
        · rw [if_neg c2, if_neg c2]
theorem up2_max {v code : Int} {s : Int × Int} : up2 (max s.1 v) code s = up2 v code s := by
  unfold up2
  by_cases c : s.1 < v
  · rw [if_pos c, show max s.1 v = v by omega, if_pos c]
  · rw [if_neg c, if_neg (by omega)]
theorem lfJ_cg {φ ψ : Nat → RS → Int × Int → Int × Int} {X : RS} (hX : RX X) (P : Int × Int → Prop) (hp : ∀ j (c : Nat) (w : Int) s, c < X.1 → X.2.2.2.2.2.1 c < 7 → P s → φ j (rsM c w X) s = ψ j (rsM c w X) s ∧ P (ψ j (rsM c w X) s)) : ∀ (k j : Nat) (s : Int × Int), P s → j + k ≤ 3 * X.1 → lfJ φ X j s k = lfJ ψ X j s k
  | 0, j, s, _, _ => rfl
  | k + 1, j, s, hs, hj => by
    simp only [lfJ]
    rcases hX.s7 (c := j / 3) (by omega) with q | q
    · rw [if_pos q, if_pos q]; exact lfJ_cg hX P hp k (j + 1) s hs (by omega)
    · have h := hp j (j / 3) ((j % 3 : Nat) : Int) s (by omega) q hs
      rw [if_neg (by omega), if_neg (by omega), h.1]
      exact lfJ_cg hX P hp k (j + 1) _ h.2 (by omega)
theorem up2_p {v code : Int} {s : Int × Int} (h : -1 ≤ s.1) : -1 ≤ (up2 v code s).1 := by
  unfold up2
  split
  · show -1 ≤ v; omega
  · exact h
theorem lf_rl {code : Int} : ∀ (l : Nat) (X : RS) (s : Int × Int), RX X → -1 ≤ s.1 → lf l code X s = up2 (rl l X) code s
  | 0, X, s, _, _ => rfl
  | l + 1, X, s, hX, hs => by
    simp only [lf, rl]
    by_cases q : nch X.2.2.2.2.2.1 0 (3 * X.1) < 0
    · rw [if_pos q, if_pos q]
    · rw [if_neg q, if_neg q]
      rw [lfJ_cg (ψ := fun _ Y s => up2 (rl l Y) code s) hX (fun s => -1 ≤ s.1) (fun j c w s hc h7 hs => ⟨lf_rl l _ s (hX.min hc h7) hs, up2_p hs⟩) (3 * X.1) 0 s hs (by omega)]
      rw [lfJ_up hX (3 * X.1) 0 s (by omega)]
      rw [show msJ (rl l) X 0 s.1 (3 * X.1) = msJ (rl l) X 0 (max s.1 (-1)) (3 * X.1) by rw [show max s.1 (-1) = s.1 by omega], msJ_max]
      exact up2_max
/-- steps after a minute -/
theorem stp_min {X : RS} (c : Nat) (w : Int) (hc : c < X.1) (hw : w ≠ 3) : stp (rsM c w X) = stp X + (sp_ms (X.2.2.1 c) (X.2.2.2.1 c) w (X.2.2.2.2.1 c) (X.2.2.2.2.2.1 c) - X.2.2.2.2.2.1 c) := by
  obtain ⟨n, m, K, F, T, S, C⟩ := X
  have hc : c < n := hc
  show sm (mnS c w K F T S) 0 n = sm S 0 n + (sp_ms (K c) (F c) w (T c) (S c) - S c)
  unfold mnS
  rw [if_neg hw, sm_fu, if_pos ⟨by omega, by omega⟩]
theorem sp_ms_r2 (k f w t s : Int) : sp_ms k f w t s = s ∨ sp_ms k f w t s = s + 1 := by
  unfold sp_ms
  repeat' split
  all_goals omega
theorem nch_all {S : Nat → Int} : ∀ (k c : Nat), nch S c k < 0 → ∀ i, c ≤ i → i < c + k → S (i / 3) = 7
  | 0, c, _, i, h1, h2 => by omega
  | k + 1, c, h, i, h1, h2 => by
    simp only [nch] at h
    by_cases q : S (c / 3) = 7
    · rw [if_pos q] at h
      by_cases e : i = c
      · rw [e]; exact q
      · exact nch_all k (c + 1) h i (by omega) (by omega)
    · rw [if_neg q] at h; omega
theorem msJ_none {g : RS → Int} {X : RS} : ∀ (k j : Nat) (a : Int), (∀ i, j ≤ i → i < j + k → X.2.2.2.2.2.1 (i / 3) = 7) → msJ g X j a k = a
  | 0, j, a, _ => rfl
  | k + 1, j, a, h => by
    simp only [msJ]
    rw [if_neg (by rw [h j (by omega) (by omega)]; omega)]
    exact msJ_none k (j + 1) a (fun i h1 h2 => h i (by omega) (by omega))
theorem fmJ_none {g : RS → Int} {X : RS} : ∀ (k j : Nat) (a : Int), (∀ i, j ≤ i → i < j + k → X.2.2.2.2.2.1 (i / 3) = 7) → fmJ g X j a k = -4
  | 0, j, a, _ => rfl
  | k + 1, j, a, h => by
    simp only [fmJ]
    rw [if_neg (by rw [h j (by omega) (by omega)]; omega)]
    exact fmJ_none k (j + 1) a (fun i h1 h2 => h i (by omega) (by omega))
theorem msJ_at {g : RS → Int} {X : RS} : ∀ (k j : Nat) (a : Int) (i : Nat), j ≤ i → i < j + k → X.2.2.2.2.2.1 (i / 3) < 7 → g (rsM (i / 3) ((i % 3 : Nat) : Int) X) ≤ msJ g X j a k
  | 0, j, a, i, h1, h2, _ => by omega
  | k + 1, j, a, i, h1, h2, h3 => by
    simp only [msJ]
    by_cases e : i = j
    · subst e
      rw [if_pos h3]
      have := msJ_ge (g := g) (X := X) k (i + 1) (max a (g (rsM (i / 3) ((i % 3 : Nat) : Int) X)))
      omega
    · split
      · exact msJ_at k (j + 1) _ i (by omega) (by omega) h3
      · exact msJ_at k (j + 1) _ i (by omega) (by omega) h3
theorem msJ_le {g : RS → Int} {X : RS} {b : Int} : ∀ (k j : Nat) (a : Int), a ≤ b → (∀ i, j ≤ i → i < j + k → X.2.2.2.2.2.1 (i / 3) < 7 → g (rsM (i / 3) ((i % 3 : Nat) : Int) X) ≤ b) → msJ g X j a k ≤ b
  | 0, j, a, h, _ => h
  | k + 1, j, a, h, hb => by
    simp only [msJ]
    split
    · rename_i q
      have := hb j (by omega) (by omega) q
      exact msJ_le k (j + 1) _ (by omega) (fun i h1 h2 h3 => hb i (by omega) (by omega) h3)
    · exact msJ_le k (j + 1) _ h (fun i h1 h2 h3 => hb i (by omega) (by omega) h3)
theorem anyB_iff {p : Nat → Bool} : ∀ (k c : Nat), anyB p c k = true ↔ ∃ i, c ≤ i ∧ i < c + k ∧ p i = true
  | 0, c => by
    simp only [anyB]
    exact ⟨fun h => absurd h (by decide), fun ⟨i, h1, h2, _⟩ => by omega⟩
  | k + 1, c => by
    simp only [anyB, Bool.or_eq_true]
    rw [anyB_iff k (c + 1)]
    constructor
    · rintro (h | ⟨i, h1, h2, h3⟩)
      · exact ⟨c, Nat.le_refl _, by omega, h⟩
      · exact ⟨i, by omega, by omega, h3⟩
    · rintro ⟨i, h1, h2, h3⟩
      by_cases e : i = c
      · subst e; exact Or.inl h3
      · exact Or.inr ⟨i, by omega, by omega, h3⟩
theorem stp_le {X : RS} {c : Nat} {w : Int} (hc : c < X.1) (hw : w ≠ 3) : stp X ≤ stp (rsM c w X) ∧ stp (rsM c w X) ≤ stp X + 1 := by
  rw [stp_min c w hc hw]
  have := sp_ms_r2 (X.2.2.1 c) (X.2.2.2.1 c) w (X.2.2.2.2.1 c) (X.2.2.2.2.2.1 c)
  omega
theorem nch_ex {X : RS} (hX : RX X) (q : ¬ nch X.2.2.2.2.2.1 0 (3 * X.1) < 0) : ∃ i, i < 3 * X.1 ∧ X.2.2.2.2.2.1 (i / 3) < 7 := by
  rcases nch_v (S := X.2.2.2.2.2.1) (3 * X.1) 0 with h | ⟨b, h1, h2, h3, h4⟩
  · omega
  · refine ⟨b, by omega, ?_⟩
    rcases hX.s7 (c := b / 3) (by omega) with e | e
    · exact absurd e h4
    · exact e
theorem rl_1 {X : RS} (hX : RX X) : rl 1 X = ms 1 X := by
  simp only [rl, ms]
  by_cases q : nch X.2.2.2.2.2.1 0 (3 * X.1) < 0
  · rw [if_pos q]
    have ha : ¬ anyS X = true := by
      unfold anyS
      rw [anyB_iff]
      rintro ⟨i, h1, h2, h3⟩
      have h7 := nch_all (3 * X.1) 0 q (3 * i) (by omega) (by omega)
      rw [show 3 * i / 3 = i by omega] at h7
      simp only [rdB, fgB, Bool.or_eq_true, decide_eq_true_eq] at h3
      omega
    rw [if_neg ha]
    omega
  · rw [if_neg q]
    have hb : msJ (rl 0) X 0 (-1) (3 * X.1) = msJ stp X 0 (-1) (3 * X.1) := rfl
    show msJ stp X 0 (-1) (3 * X.1) = _
    obtain ⟨b, hb1, hb2⟩ := nch_ex hX q
    have h0 := stp_r hX
    by_cases ha : anyS X = true
    · rw [if_pos ha]
      have hu : msJ stp X 0 (-1) (3 * X.1) ≤ stp X + 1 := msJ_le _ _ _ (by omega) (fun i _ h2 _ => (stp_le (c := i / 3) (by omega) (by omega)).2)
      unfold anyS at ha
      rw [anyB_iff] at ha
      obtain ⟨i, h1, h2, h3⟩ := ha
      simp only [rdB, fgB, Bool.or_eq_true, decide_eq_true_eq] at h3
      have hl : stp X + 1 ≤ msJ stp X 0 (-1) (3 * X.1) := by
        rcases h3 with ⟨h7, h3⟩ | ⟨h7, h3⟩
        · have h8 := msJ_at (g := stp) (X := X) (3 * X.1) 0 (-1) (3 * i + 2) (by omega) (by omega) (by rw [show (3 * i + 2) / 3 = i by omega]; exact h7)
          rw [show (3 * i + 2) / 3 = i by omega, show (3 * i + 2) % 3 = 2 by omega, stp_min i _ (by omega) (by decide)] at h8
          rw [show sp_ms (X.2.2.1 i) (X.2.2.2.1 i) ((2 : Nat) : Int) (X.2.2.2.2.1 i) (X.2.2.2.2.2.1 i) = X.2.2.2.2.2.1 i + 1 from by unfold sp_ms; rw [if_neg (by decide), if_pos (show ((2 : Nat) : Int) = 2 from rfl), if_pos h3]] at h8
          omega
        · have h8 := msJ_at (g := stp) (X := X) (3 * X.1) 0 (-1) (3 * i + 1) (by omega) (by omega) (by rw [show (3 * i + 1) / 3 = i by omega]; exact h7)
          rw [show (3 * i + 1) / 3 = i by omega, show (3 * i + 1) % 3 = 1 by omega, stp_min i _ (by omega) (by decide)] at h8
          rw [show sp_ms (X.2.2.1 i) (X.2.2.2.1 i) ((1 : Nat) : Int) (X.2.2.2.2.1 i) (X.2.2.2.2.2.1 i) = X.2.2.2.2.2.1 i + 1 from by unfold sp_ms; rw [if_pos (show ((1 : Nat) : Int) = 1 from rfl), if_pos h3]] at h8
          omega
      omega
    · rw [if_neg ha]
      have hu : msJ stp X 0 (-1) (3 * X.1) ≤ stp X := by
        refine msJ_le _ _ _ (by omega) (fun i _ h2 h3 => ?_)
        rw [stp_min (i / 3) _ (by omega) (by omega)]
        have hn : ¬ ((rdB X.2.2.1 X.2.2.2.1 X.2.2.2.2.1 X.2.2.2.2.2.1 (i / 3) || fgB X.2.2.1 X.2.2.2.1 X.2.2.2.2.1 X.2.2.2.2.2.1 (i / 3)) = true) := fun z => ha (by
          unfold anyS
          rw [anyB_iff]
          exact ⟨i / 3, by omega, by omega, z⟩)
        simp only [rdB, fgB, Bool.or_eq_true, decide_eq_true_eq] at hn
        unfold sp_ms
        rcases (show i % 3 = 0 ∨ i % 3 = 1 ∨ i % 3 = 2 by omega) with e | e | e
        · rw [e, if_neg (by decide), if_neg (by decide)]; omega
        · rw [e, if_pos (show ((1 : Nat) : Int) = 1 from rfl), if_neg (fun z => hn (Or.inr ⟨h3, z⟩))]; omega
        · rw [e, if_neg (by decide), if_pos (show ((2 : Nat) : Int) = 2 from rfl), if_neg (fun z => hn (Or.inl ⟨h3, z⟩))]; omega
      have h8 := msJ_at (g := stp) (X := X) (3 * X.1) 0 (-1) b (by omega) (by omega) hb2
      have h9 := (stp_le (X := X) (c := b / 3) (w := ((b % 3 : Nat) : Int)) (by omega) (by omega)).1
      omega
theorem ms_ge : ∀ (l : Nat) (X : RS), stp X ≤ ms l X
  | 0, X => by simp only [ms]; omega
  | 1, X => by simp only [ms]; split <;> omega
  | l + 2, X => by simp only [ms]; exact msJ_ge _ _ _
theorem rl_ms : ∀ (l : Nat) (X : RS), RX X → rl l X = ms l X
  | 0, X, _ => rfl
  | 1, X, h => rl_1 h
  | l + 2, X, h => by
    have e1 : rl (l + 2) X = if nch X.2.2.2.2.2.1 0 (3 * X.1) < 0 then stp X else msJ (rl (l + 1)) X 0 (-1) (3 * X.1) := rfl
    have e2 : ms (l + 2) X = msJ (ms (l + 1)) X 0 (stp X) (3 * X.1) := rfl
    rw [e1, e2]
    by_cases q : nch X.2.2.2.2.2.1 0 (3 * X.1) < 0
    · rw [if_pos q, msJ_none _ _ _ (fun i h1 h2 => nch_all (3 * X.1) 0 q i h1 h2)]
    · rw [if_neg q, msJ_cg (g2 := ms (l + 1)) h (fun c w hc h7 => rl_ms (l + 1) _ (h.min hc h7)) _ _ _ (by omega)]
      have h0 := stp_r h
      obtain ⟨b, hb1, hb2⟩ := nch_ex h q
      have h8 := msJ_at (g := ms (l + 1)) (X := X) (3 * X.1) 0 (-1) b (by omega) (by omega) hb2
      have h9 := (stp_le (X := X) (c := b / 3) (w := ((b % 3 : Nat) : Int)) (by omega) (by omega)).1
      have h10 := ms_ge (l + 1) (rsM (b / 3) ((b % 3 : Nat) : Int) X)
      have e3 : msJ (ms (l + 1)) X 0 (stp X) (3 * X.1) = max (stp X) (msJ (ms (l + 1)) X 0 (-1) (3 * X.1)) := by
        rw [← msJ_max, show max (stp X) (-1) = stp X by omega]
      rw [e3]
      omega
/-- what the reference lays: the most, the first -/
def rmo (l : Nat) (X : RS) : Int × Int := if l = 0 ∨ nch X.2.2.2.2.2.1 0 (3 * X.1) < 0 then (stp X, -4) else lfJ (fun j => lf (l - 1) (cd j)) X 0 (-1, -4) (3 * X.1)
theorem rmo_ok {X : RS} {l : Nat} (hX : RX X) (w : Int) (hw : 0 ≤ w ∧ w ≤ 1) (hl : l ≤ 3) : an_mostSteps X (l : Int) w = if w = 0 then (rmo l X).1 else (rmo l X).2 := by
  unfold an_mostSteps rmo
  rw [if_pos ⟨by omega, hw⟩, show ((l : Nat) : Int).toNat = l from rfl]
  by_cases l0 : l = 0
  · subst l0
    rw [if_pos (Or.inl rfl), if_pos (show ((0 : Nat) : Int) = 0 from rfl)]
    rfl
  rw [if_neg (show ¬ ((l : Nat) : Int) = 0 by omega)]
  obtain ⟨l, rfl⟩ : ∃ q, l = q + 1 := ⟨l - 1, by omega⟩
  rw [show l + 1 - 1 = l from rfl]
  by_cases q : nch X.2.2.2.2.2.1 0 (3 * X.1) < 0
  · rw [if_pos (Or.inr q), ← rl_ms (l + 1) X hX, fmJ_none _ _ _ (fun i h1 h2 => nch_all (3 * X.1) 0 q i h1 h2)]
    simp only [rl]
    rw [if_pos q]
  · rw [if_neg (show ¬ (l + 1 = 0 ∨ nch X.2.2.2.2.2.1 0 (3 * X.1) < 0) from fun z => by rcases z with z | z <;> omega)]
    rw [lfJ_cg (ψ := fun j Y s => up2 (rl l Y) (cd j) s) hX (fun s => -1 ≤ s.1) (fun j c w s hc h7 hs => ⟨lf_rl l _ s (hX.min hc h7) hs, up2_p hs⟩) (3 * X.1) 0 (-1, -4) (Int.le_refl _) (by omega)]
    rw [lfJ_top hX (3 * X.1) 0 (-1, -4) (by omega)]
    have e1 : msJ (rl l) X 0 (-1) (3 * X.1) = ms (l + 1) X := by
      rw [← rl_ms (l + 1) X hX]
      simp only [rl]
      rw [if_neg q]
    have h0 := stp_r hX
    have h1 := ms_ge (l + 1) X
    show (if w = 0 then ms (l + 1) X else _) = if w = 0 then (if (-1 : Int) < msJ (rl l) X 0 (-1) (3 * X.1) then (msJ (rl l) X 0 (-1) (3 * X.1), fmJ (rl l) X 0 (msJ (rl l) X 0 (-1) (3 * X.1)) (3 * X.1)) else (-1, -4)).1 else (if (-1 : Int) < msJ (rl l) X 0 (-1) (3 * X.1) then (msJ (rl l) X 0 (-1) (3 * X.1), fmJ (rl l) X 0 (msJ (rl l) X 0 (-1) (3 * X.1)) (3 * X.1)) else (-1, -4)).2
    rw [e1, if_pos (show (-1 : Int) < ms (l + 1) X by omega)]
    have e2 : ∀ (k j : Nat) (a : Int), j + k ≤ 3 * X.1 → fmJ (ms l) X j a k = fmJ (rl l) X j a k := by
      intro k
      induction k with
      | zero => intro j a _; rfl
      | succ k ih =>
        intro j a hj
        simp only [fmJ]
        rw [ih (j + 1) a (by omega)]
        by_cases c : X.2.2.2.2.2.1 (j / 3) < 7
        · rw [if_pos c, if_pos c, rl_ms l _ (hX.min (by omega) c)]
        · rw [if_neg c, if_neg c]
    rw [e2 (3 * X.1) 0 _ (by omega)]
