/-! the reference: a STATEMENT read (by program: wip/whole/spec_sb.py) -/
/-- digits read: what is wrong, the place then -/
def rdw (xs : List Int) : Nat → Int → Nat → Int × Nat
  | 0, w, p => (w, p)
  | k + 1, w, p => if w = 0 ∧ (48 ≤ hre xs p ∧ hre xs p ≤ 57) then rdw xs k 0 (p + 1) else rdw xs k 1 p
theorem rdg_w {xs : List Int} : ∀ (k : Nat) (w : Int) (p : Nat) (v : Int), (rdg xs k w p v).1 = (rdw xs k w p).1 ∧ (rdg xs k w p v).2.1 = (rdw xs k w p).2
  | 0, w, p, v => ⟨rfl, rfl⟩
  | k + 1, w, p, v => by
    simp only [rdg, rdw]
    by_cases q : w = 0 ∧ (48 ≤ hre xs p ∧ hre xs p ≤ 57)
    · rw [if_pos q, if_pos q]; exact rdg_w k 0 (p + 1) _
    · rw [if_neg q, if_neg q]; exact rdg_w k 1 p 0
theorem rdw_1 {xs : List Int} : ∀ (k : Nat) (p : Nat), rdw xs k 1 p = (1, p)
  | 0, p => rfl
  | k + 1, p => by
    simp only [rdw]
    rw [if_neg (fun z => by omega)]
    exact rdw_1 k p
theorem rdw_add {xs : List Int} : ∀ (a b : Nat) (w : Int) (p : Nat), rdw xs (a + b) w p = rdw xs b (rdw xs a w p).1 (rdw xs a w p).2
  | 0, b, w, p => by rw [Nat.zero_add]; rfl
  | a + 1, b, w, p => by
    rw [show a + 1 + b = (a + b) + 1 by omega]
    simp only [rdw]
    by_cases q : w = 0 ∧ (48 ≤ hre xs p ∧ hre xs p ≤ 57)
    · rw [if_pos q, if_pos q]; exact rdw_add a b 0 (p + 1)
    · rw [if_neg q, if_neg q]; exact rdw_add a b 1 p
theorem rdw_v {xs : List Int} : ∀ (k : Nat) (w : Int) (p : Nat), (w = 0 ∨ w = 1) → ((rdw xs k w p).1 = 0 ∨ (rdw xs k w p).1 = 1) ∧ p ≤ (rdw xs k w p).2 ∧ (rdw xs k w p).2 ≤ p + k := fun k w p hw => by
  have h := rdg_v (xs := xs) k w p 0 hw
  have e := rdg_w (xs := xs) k w p 0
  rw [e.1, e.2] at h
  exact h
theorem rdw_0 {xs : List Int} {k : Nat} {w : Int} {p : Nat} (h : (rdw xs k w p).1 = 0) (hw : w = 0 ∨ w = 1) : w = 0 := by
  rcases hw with e | e
  · exact e
  · subst e; rw [rdw_1] at h; exact absurd h (by decide : ¬ (1 : Int) = 0)
theorem rdw_s (xs : List Int) (k : Nat) (w : Int) (p : Nat) : rdw xs (k + 1) w p = if w = 0 ∧ (48 ≤ hre xs p ∧ hre xs p ≤ 57) then rdw xs k 0 (p + 1) else rdw xs k 1 p := rfl
theorem rdg_s (xs : List Int) (k : Nat) (w : Int) (p : Nat) (v : Int) : rdg xs (k + 1) w p v = if w = 0 ∧ (48 ≤ hre xs p ∧ hre xs p ≤ 57) then rdg xs k 0 (p + 1) (10 * v + hre xs p - 48) else rdg xs k 1 p 0 := rfl
/-- one digit, two digits -/
theorem rdg_1 {xs : List Int} {p : Nat} (h : (rdw xs 1 0 p).1 = 0) : (rdg xs 1 0 p 0).2.2 = hre xs p - 48 := by
  rw [rdw_s] at h
  rw [rdg_s]
  by_cases q : (0 : Int) = 0 ∧ (48 ≤ hre xs p ∧ hre xs p ≤ 57)
  · rw [if_pos q]; show 10 * 0 + hre xs p - 48 = _; omega
  · rw [if_neg q, rdw_1] at h; exact absurd h (by decide : ¬ (1 : Int) = 0)
theorem rdg_2 {xs : List Int} {p : Nat} (h : (rdw xs 2 0 p).1 = 0) : (rdg xs 2 0 p 0).2.2 = (hre xs p - 48) * 10 + hre xs (p + 1) - 48 := by
  rw [rdw_s] at h
  rw [rdg_s]
  by_cases q : (0 : Int) = 0 ∧ (48 ≤ hre xs p ∧ hre xs p ≤ 57)
  · rw [if_pos q] at h ⊢
    rw [rdw_s] at h
    rw [rdg_s]
    by_cases q2 : (0 : Int) = 0 ∧ (48 ≤ hre xs (p + 1) ∧ hre xs (p + 1) ≤ 57)
    · rw [if_pos q2]; show 10 * (10 * 0 + hre xs p - 48) + hre xs (p + 1) - 48 = _; omega
    · rw [if_neg q2, rdw_1] at h; exact absurd h (by decide : ¬ (1 : Int) = 0)
  · rw [if_neg q, rdw_1] at h; exact absurd h (by decide : ¬ (1 : Int) = 0)
theorem hre_gx {xs : List Int} {p : Nat} (h : p < xs.length) : hre xs p = gx xs (p : Int) := by
  rw [gx_nat h]; exact if_pos h
theorem hre_out {xs : List Int} {p : Nat} (h : ¬ p < xs.length) : hre xs p = -999 := if_neg h
/-- msh and the digits -/
theorem rdw_msh {xs : List Int} : ∀ (n p : Nat), p ≤ xs.length → ((rdw xs n 0 p).1 = 0 → (rdw xs n 0 p).2 = p + n ∧ p + n ≤ xs.length ∧ msh xs p (n : Int) (xs.length - p) = msh xs (p + n) 0 (xs.length - (p + n)) ∧ ∀ j, j < n → 48 ≤ hre xs (p + j) ∧ hre xs (p + j) ≤ 57) ∧ ((rdw xs n 0 p).1 = 1 → msh xs p (n : Int) (xs.length - p) = ((rdw xs n 0 p).2 : Int) ∧ (rdw xs n 0 p).2 ≤ xs.length)
  | 0, p, hp => ⟨fun _ => ⟨rfl, hp, rfl, fun j hj => absurd hj (by omega)⟩, fun h => absurd h (by decide : ¬ (0 : Int) = 1)⟩
  | n + 1, p, hp => by
    rw [rdw_s]
    by_cases q : (0 : Int) = 0 ∧ (48 ≤ hre xs p ∧ hre xs p ≤ 57)
    · have hpl : p < xs.length := by
        by_cases z : p < xs.length
        · exact z
        · have := hre_out z; omega
      rw [if_pos q]
      have ih := rdw_msh (xs := xs) n (p + 1) (by omega)
      have em : msh xs p ((n + 1 : Nat) : Int) (xs.length - p) = msh xs (p + 1) (n : Int) (xs.length - (p + 1)) := by
        rw [show xs.length - p = (xs.length - (p + 1)) + 1 by omega]
        simp only [msh]
        have hg : xs.getD p 0 = hre xs p := (if_pos hpl).symm
        rw [hg, if_neg (by omega), if_pos (by omega), if_pos q.2, show ((n + 1 : Nat) : Int) - 1 = (n : Int) by omega]
      rw [em]
      refine ⟨fun h => ?_, fun h => ih.2 h⟩
      obtain ⟨a, b, c, d⟩ := ih.1 h
      refine ⟨by omega, by omega, by rw [c, show p + 1 + n = p + (n + 1) by omega], fun j hj => ?_⟩
      by_cases e : j = 0
      · subst e; exact q.2
      · have := d (j - 1) (by omega)
        rw [show p + 1 + (j - 1) = p + j by omega] at this
        exact this
    · rw [if_neg q, rdw_1]
      refine ⟨fun h => absurd h (by decide : ¬ (1 : Int) = 0), fun _ => ⟨?_, hp⟩⟩
      by_cases z : p < xs.length
      · rw [show xs.length - p = (xs.length - (p + 1)) + 1 by omega]
        simp only [msh]
        have hg : xs.getD p 0 = hre xs p := (if_pos z).symm
        rw [hg, if_neg (by omega), if_pos (by omega), if_neg (fun z => q ⟨rfl, z⟩)]
      · have ep : p = xs.length := by omega
        rw [ep, Nat.sub_self]
        simp only [msh]
        rw [if_neg (by omega)]
/-- one STATEMENT read from a place: what is wrong, the place then -/
def rs1 (xs : List Int) (p : Nat) : Int × Nat :=
  if dB (hre xs p) = -1 then (1, p)
  else if (rdw xs (dB (hre xs p)).toNat 0 (p + 1)).1 = 0 then (if hre xs (rdw xs (dB (hre xs p)).toNat 0 (p + 1)).2 = 59 then (0, (rdw xs (dB (hre xs p)).toNat 0 (p + 1)).2 + 1) else (1, (rdw xs (dB (hre xs p)).toNat 0 (p + 1)).2))
  else (1, (rdw xs (dB (hre xs p)).toNat 0 (p + 1)).2)
theorem rs1_v (xs : List Int) (p : Nat) : ((rs1 xs p).1 = 0 ∨ (rs1 xs p).1 = 1) := by
  unfold rs1
  repeat' split
  all_goals first
    | exact Or.inl rfl
    | exact Or.inr rfl
theorem dB_out : dB (-999) = -1 := by decide
theorem rs1_msh {xs : List Int} {p : Nat} (hp : p < xs.length ∨ xs.length = p ∧ p = 0) : ((rs1 xs p).1 = 0 → p < xs.length ∧ (rs1 xs p).2 = p + (dB (gx xs (p : Int))).toNat + 2 ∧ 1 ≤ dB (gx xs (p : Int)) ∧ (rs1 xs p).2 ≤ xs.length ∧ msh xs p (-1) (xs.length - p) = msh xs (rs1 xs p).2 (-1) (xs.length - (rs1 xs p).2)) ∧ ((rs1 xs p).1 = 1 → msh xs p (-1) (xs.length - p) = ((rs1 xs p).2 : Int)) := by
  by_cases z : p < xs.length
  · have hg : xs.getD p 0 = hre xs p := (if_pos z).symm
    have hr := dB_r (hre xs p)
    have em : msh xs p (-1) (xs.length - p) = if dB (hre xs p) = -1 then (p : Int) else msh xs (p + 1) (dB (hre xs p)) (xs.length - (p + 1)) := by
      rw [show xs.length - p = (xs.length - (p + 1)) + 1 by omega]
      simp only [msh, if_true]
      rw [hg]
    rw [em, ← hre_gx z]
    unfold rs1
    by_cases q1 : dB (hre xs p) = -1
    · rw [if_pos q1, if_pos q1]
      exact ⟨fun h => absurd h (by decide : ¬ (1 : Int) = 0), fun _ => rfl⟩
    · rw [if_neg q1, if_neg q1]
      have hd0 : dB (hre xs p) ≠ 0 := by
        unfold dB
        repeat' split
        all_goals decide
      have hm := rdw_msh (xs := xs) (dB (hre xs p)).toNat (p + 1) (by omega)
      have hw := rdw_v (xs := xs) (dB (hre xs p)).toNat 0 (p + 1) (Or.inl rfl)
      rw [show (((dB (hre xs p)).toNat : Nat) : Int) = dB (hre xs p) by omega] at hm
      by_cases q2 : (rdw xs (dB (hre xs p)).toNat 0 (p + 1)).1 = 0
      · obtain ⟨m1, m2, m3, m4⟩ := hm.1 q2
        rw [if_pos q2, m3, m1]
        by_cases q3 : hre xs (p + 1 + (dB (hre xs p)).toNat) = 59
        · rw [if_pos q3]
          have hl : p + 1 + (dB (hre xs p)).toNat < xs.length := by
            by_cases y : p + 1 + (dB (hre xs p)).toNat < xs.length
            · exact y
            · have := hre_out y; omega
          have hg2 : xs.getD (p + 1 + (dB (hre xs p)).toNat) 0 = hre xs (p + 1 + (dB (hre xs p)).toNat) := (if_pos hl).symm
          refine ⟨fun _ => ⟨z, ?_, ?_, ?_, ?_⟩, fun h => absurd h (by decide : ¬ (0 : Int) = 1)⟩
          · show p + 1 + (dB (hre xs p)).toNat + 1 = _; omega
          · omega
          · show p + 1 + (dB (hre xs p)).toNat + 1 ≤ _; omega
          · show _ = msh xs (p + 1 + (dB (hre xs p)).toNat + 1) (-1) (xs.length - (p + 1 + (dB (hre xs p)).toNat + 1))
            rw [show xs.length - (p + 1 + (dB (hre xs p)).toNat) = (xs.length - (p + 1 + (dB (hre xs p)).toNat + 1)) + 1 by omega]
            simp only [msh]
            rw [hg2, if_neg (by omega), if_neg (by omega), if_pos q3]
        · rw [if_neg q3]
          refine ⟨fun h => absurd h (by decide : ¬ (1 : Int) = 0), fun _ => ?_⟩
          show _ = ((p + 1 + (dB (hre xs p)).toNat : Nat) : Int)
          by_cases y : p + 1 + (dB (hre xs p)).toNat < xs.length
          · have hg2 : xs.getD (p + 1 + (dB (hre xs p)).toNat) 0 = hre xs (p + 1 + (dB (hre xs p)).toNat) := (if_pos y).symm
            rw [show xs.length - (p + 1 + (dB (hre xs p)).toNat) = (xs.length - (p + 1 + (dB (hre xs p)).toNat + 1)) + 1 by omega]
            simp only [msh]
            rw [hg2, if_neg (by omega), if_neg (by omega), if_neg q3]
          · have ep : p + 1 + (dB (hre xs p)).toNat = xs.length := by omega
            rw [ep, Nat.sub_self]
            simp only [msh]
            rw [if_neg (by omega)]
      · rw [if_neg q2]
        refine ⟨fun h => absurd h (by decide : ¬ (1 : Int) = 0), fun _ => ?_⟩
        exact (hm.2 (by omega)).1
  · have h0 : xs.length = 0 := by omega
    have hp0 : p = 0 := by omega
    subst hp0
    have e1 : rs1 xs 0 = (1, 0) := by
      unfold rs1
      rw [hre_out (by omega), dB_out, if_pos rfl]
    rw [e1]
    refine ⟨fun h => absurd h (by decide : ¬ (1 : Int) = 0), fun _ => ?_⟩
    rw [h0]
    show msh xs 0 (-1) 0 = _
    simp only [msh]
    rw [if_neg (by omega), h0]
/-- what the reference keeps of a STATEMENT at i: place, letter, numbers -/
def Nums (z : Int) (xs : List Int) (i : Nat) (f : Nat → Int) (b : Nat) : Prop := f b = gx xs ((i : Int) + 1) - 48 ∧ (z ≠ 98 → z ≠ 116 → f (b + 1) = gx xs ((i : Int) + 2) - 48) ∧ (z = 116 → f (b + 1) = (gx xs ((i : Int) + 2) - 48) * 10 + gx xs ((i : Int) + 2 + 1) - 48) ∧ (z = 99 → f (b + 2) = (gx xs ((i : Int) + 3) - 48) * 10 + gx xs ((i : Int) + 3 + 1) - 48)
theorem hre_d {xs : List Int} {p : Nat} (h : 48 ≤ hre xs p ∧ hre xs p ≤ 57) {z : Int} (hz : z = (p : Int)) : hre xs p = gx xs z := by
  subst hz
  apply hre_gx
  by_cases c : p < xs.length
  · exact c
  · have := hre_out c; omega
theorem x12_readNumbers {E : am_E} {d : Nat} {h : Hp} {m a i bs : Nat} {z : Int} {xs : List Int} {g K F T S C : Nat → Int} {ρ : Nat → Nat → Int} {kp : Value}  (M : MAt h m g K F T S C ρ kp) (hB : E.2 ≤ m) (ha : a < 8) (hlen : ρ 10 a = (xs.length : Int)) (hl2 : xs.length ≤ 100) (hx : ∀ i, i < xs.length → ρ 11 (100 * a + i) = xs.getD i 0 ∧ (-2147483648 ≤ xs.getD i 0 ∧ xs.getD i 0 ≤ 2147483647)) (h14 : g 14 = (a : Int)) (h15 : g 15 = ((i + 1 : Nat) : Int)) (h16 : g 16 = 0) (hp : i ≤ 500) (hbs : bs + 3 ≤ 153) (hz : -2147483648 ≤ z ∧ z ≤ 2147483647) (hz2 : dB z ≠ -1)  : Ex E (d + 2) mX12_readNumbers 0 [.ref m, .int (i32 z), .int (i32 (bs : Int))] [] h (fun r1 h1 => r1 = none ∧ (∃ g2 f2, MAt h1 m g2 K F T S C (fuR ρ 14 f2) kp ∧ g2 16 = (rdw xs (dB z).toNat 0 (i + 1)).1 ∧ g2 15 = (((rdw xs (dB z).toNat 0 (i + 1)).2 : Nat) : Int) ∧ ((rdw xs (dB z).toNat 0 (i + 1)).1 = 0 → i + 1 ≤ xs.length → Nums z xs i f2 bs) ∧ (∀ j, j < bs ∨ bs + 3 ≤ j → f2 j = ρ 14 j) ∧ ∀ j, j ≠ 15 → j ≠ 16 → g2 j = g j) ∧ Fr h h1 m (m + 23)) := by
  by_cases c98 : z = 98
  · subst c98
    refine Ex_post (x12_rn_98 M hB ha hlen hl2 hx h14 h15 h16 (Or.inl rfl) (by omega) hbs) ?_
    rintro r1 h1 ⟨rfl, ⟨g2, f2, y1, y2, y3, y4, y5, y6⟩, y7⟩
    have ew := rdg_w (xs := xs) 1 0 (i + 1) 0
    rw [ew.1] at y2
    rw [ew.2] at y3
    refine ⟨rfl, ⟨g2, f2, y1, y2, y3, fun hg hl => ?_, y5, y6⟩, y7⟩
    have hg : (rdw xs 1 0 (i + 1)).1 = 0 := hg
    obtain ⟨m1, m2, m3, m4⟩ := (rdw_msh (xs := xs) 1 (i + 1) hl).1 hg
    rw [rdg_1 hg, hre_d (m4 0 (by omega)) (z := (i : Int) + 1) (by omega)] at y4
    exact ⟨y4, fun h => absurd rfl h, fun h => absurd h (by decide : ¬ (98 : Int) = 116), fun h => absurd h (by decide : ¬ (98 : Int) = 99)⟩
  by_cases c116 : z = 116
  · subst c116
    refine Ex_post (x12_rn_116 M hB ha hlen hl2 hx h14 h15 h16 (Or.inl rfl) (by omega) hbs) ?_
    rintro r1 h1 ⟨rfl, ⟨g2, f2, y1, y2, y3, y4, y4b, y5, y6⟩, y7⟩
    have e1 := rdg_w (xs := xs) 1 0 (i + 1) 0
    rw [e1.1, e1.2] at y2 y3 y4b
    have e2 := rdg_w (xs := xs) 2 (rdw xs 1 0 (i + 1)).1 (rdw xs 1 0 (i + 1)).2 0
    rw [e2.1] at y2
    rw [e2.2] at y3
    have e3 := rdw_add (xs := xs) 1 2 0 (i + 1)
    rw [← e3] at y2 y3
    refine ⟨rfl, ⟨g2, f2, y1, y2, y3, fun hg hl => ?_, y5, y6⟩, y7⟩
    have hg : (rdw xs (1 + 2) 0 (i + 1)).1 = 0 := hg
    obtain ⟨m1, m2, m3, m4⟩ := (rdw_msh (xs := xs) (1 + 2) (i + 1) hl).1 hg
    rw [e3] at hg
    have w1 := rdw_0 hg (rdw_v (xs := xs) 1 0 (i + 1) (Or.inl rfl)).1
    have p1 := ((rdw_msh (xs := xs) 1 (i + 1) hl).1 w1).1
    rw [w1, p1] at hg y4b
    rw [rdg_1 w1, hre_d (m4 0 (by omega)) (z := (i : Int) + 1) (by omega)] at y4
    rw [rdg_2 hg, hre_d (m4 1 (by omega)) (z := (i : Int) + 2) (by omega), hre_d (m4 2 (by omega)) (z := (i : Int) + 2 + 1) (by omega)] at y4b
    exact ⟨y4, fun _ h => absurd rfl h, fun _ => y4b, fun h => absurd h (by decide : ¬ (116 : Int) = 99)⟩
  by_cases c99 : z = 99
  · subst c99
    refine Ex_post (x12_rn_99 M hB ha hlen hl2 hx h14 h15 h16 (Or.inl rfl) (by omega) hbs) ?_
    rintro r1 h1 ⟨rfl, ⟨g2, f2, y1, y2, y3, y4, y4b, y4c, y5, y6⟩, y7⟩
    have e1 := rdg_w (xs := xs) 1 0 (i + 1) 0
    rw [e1.1, e1.2] at y2 y3 y4b y4c
    have e2 := rdg_w (xs := xs) 1 (rdw xs 1 0 (i + 1)).1 (rdw xs 1 0 (i + 1)).2 0
    rw [e2.1, e2.2] at y2 y3 y4c
    have e3 := rdw_add (xs := xs) 1 1 0 (i + 1)
    rw [← e3] at y2 y3 y4c
    have e4 := rdg_w (xs := xs) 2 (rdw xs (1 + 1) 0 (i + 1)).1 (rdw xs (1 + 1) 0 (i + 1)).2 0
    rw [e4.1] at y2
    rw [e4.2] at y3
    have e5 := rdw_add (xs := xs) (1 + 1) 2 0 (i + 1)
    rw [← e5] at y2 y3
    refine ⟨rfl, ⟨g2, f2, y1, y2, y3, fun hg hl => ?_, y5, y6⟩, y7⟩
    have hg : (rdw xs (1 + 1 + 2) 0 (i + 1)).1 = 0 := hg
    obtain ⟨m1, m2, m3, m4⟩ := (rdw_msh (xs := xs) (1 + 1 + 2) (i + 1) hl).1 hg
    rw [e5] at hg
    have w2 := rdw_0 hg (rdw_v (xs := xs) (1 + 1) 0 (i + 1) (Or.inl rfl)).1
    have p2 := ((rdw_msh (xs := xs) (1 + 1) (i + 1) hl).1 w2).1
    rw [w2, p2] at hg y4c
    rw [e3] at w2
    have w1 := rdw_0 w2 (rdw_v (xs := xs) 1 0 (i + 1) (Or.inl rfl)).1
    have p1 := ((rdw_msh (xs := xs) 1 (i + 1) hl).1 w1).1
    rw [w1, p1] at w2 y4b
    rw [rdg_1 w1, hre_d (m4 0 (by omega)) (z := (i : Int) + 1) (by omega)] at y4
    rw [rdg_1 w2, hre_d (m4 1 (by omega)) (z := (i : Int) + 2) (by omega)] at y4b
    rw [rdg_2 hg, hre_d (m4 2 (by omega)) (z := (i : Int) + 3) (by omega), hre_d (m4 3 (by omega)) (z := (i : Int) + 3 + 1) (by omega)] at y4c
    exact ⟨y4, fun _ _ => y4b, fun h => absurd h (by decide : ¬ (99 : Int) = 116), fun _ => y4c⟩
  have eD : (dB z).toNat = 1 + 1 := by
    have e : dB z = 2 := by unfold dB at hz2 ⊢; (repeat' split at hz2) <;> (repeat' split) <;> omega
    omega
  rw [eD]
  refine Ex_post (x12_rn_o M hB ha hlen hl2 hx h14 h15 h16 (Or.inl rfl) (by omega) hbs hz ⟨c98, c99, c116⟩) ?_
  rintro r1 h1 ⟨rfl, ⟨g2, f2, y1, y2, y3, y4, y4b, y5, y6⟩, y7⟩
  have e1 := rdg_w (xs := xs) 1 0 (i + 1) 0
  rw [e1.1, e1.2] at y2 y3 y4b
  have e2 := rdg_w (xs := xs) 1 (rdw xs 1 0 (i + 1)).1 (rdw xs 1 0 (i + 1)).2 0
  rw [e2.1] at y2
  rw [e2.2] at y3
  have e3 := rdw_add (xs := xs) 1 1 0 (i + 1)
  rw [← e3] at y2 y3
  refine ⟨rfl, ⟨g2, f2, y1, y2, y3, fun hg hl => ?_, y5, y6⟩, y7⟩
  obtain ⟨m1, m2, m3, m4⟩ := (rdw_msh (xs := xs) (1 + 1) (i + 1) hl).1 hg
  rw [e3] at hg
  have w1 := rdw_0 hg (rdw_v (xs := xs) 1 0 (i + 1) (Or.inl rfl)).1
  have p1 := ((rdw_msh (xs := xs) 1 (i + 1) hl).1 w1).1
  rw [w1, p1] at hg y4b
  rw [rdg_1 w1, hre_d (m4 0 (by omega)) (z := (i : Int) + 1) (by omega)] at y4
  rw [rdg_1 hg, hre_d (m4 1 (by omega)) (z := (i : Int) + 2) (by omega)] at y4b
  exact ⟨y4, fun _ _ => y4b, fun h => absurd h c116, fun h => absurd h c99⟩
/-- what stays of rows 12 to 14 -/
def KeepT (ρ ρ2 : Nat → Nat → Int) (k : Nat) : Prop := (∀ j, j ≠ 12 → j ≠ 13 → j ≠ 14 → ρ2 j = ρ j) ∧ (∀ j, j < k → ρ2 12 j = ρ 12 j ∧ ρ2 13 j = ρ 13 j) ∧ ∀ j, j < 3 * k → ρ2 14 j = ρ 14 j
def Told (ρ : Nat → Nat → Int) (xs : List Int) (k i : Nat) : Prop := ρ 12 k = (i : Int) ∧ ρ 13 k = gx xs (i : Int) ∧ Nums (gx xs (i : Int)) xs i (ρ 14) (3 * k)
theorem Told.keep {ρ ρ2 : Nat → Nat → Int} {xs : List Int} {k i : Nat} (t : Told ρ xs k i) (e : KeepT ρ ρ2 (k + 1)) : Told ρ2 xs k i := by
  obtain ⟨a, b, c1, c2, c3, c4⟩ := t
  have e0 := e.2.2 (3 * k) (by omega)
  have e1 := e.2.2 (3 * k + 1) (by omega)
  have e2 := e.2.2 (3 * k + 2) (by omega)
  refine ⟨by rw [(e.2.1 k (by omega)).1]; exact a, by rw [(e.2.1 k (by omega)).2]; exact b, by rw [e0]; exact c1, by rw [e1]; exact c2, by rw [e1]; exact c3, by rw [e2]; exact c4⟩
theorem KeepT.trans {ρ ρ2 ρ3 : Nat → Nat → Int} {k k2 : Nat} (a : KeepT ρ ρ2 k) (b : KeepT ρ2 ρ3 k2) (hk : k ≤ k2) : KeepT ρ ρ3 k := ⟨fun j h1 h2 h3 => (b.1 j h1 h2 h3).trans (a.1 j h1 h2 h3), fun j hj => ⟨(b.2.1 j (by omega)).1.trans (a.2.1 j hj).1, (b.2.1 j (by omega)).2.trans (a.2.1 j hj).2⟩, fun j hj => (b.2.2 j (by omega)).trans (a.2.2 j hj)⟩
theorem KeepT.rf (ρ : Nat → Nat → Int) (k : Nat) : KeepT ρ ρ k := ⟨fun _ _ _ _ => rfl, fun _ _ => ⟨rfl, rfl⟩, fun _ _ => rfl⟩
theorem x12_readStatement {E : am_E} {d : Nat} {h : Hp} {m a p k : Nat} {xs : List Int} {g K F T S C : Nat → Int} {ρ : Nat → Nat → Int} {kp : Value}  (M : MAt h m g K F T S C ρ kp) (hB : E.2 ≤ m) (ha : a < 8) (hlen : ρ 10 a = (xs.length : Int)) (hl2 : xs.length ≤ 100) (hx : ∀ i, i < xs.length → ρ 11 (100 * a + i) = xs.getD i 0 ∧ (-2147483648 ≤ xs.getD i 0 ∧ xs.getD i 0 ≤ 2147483647)) (h14 : g 14 = (a : Int)) (h15 : g 15 = (p : Int)) (h16 : g 16 = 0) (h17 : g 17 = (k : Int)) (hp : p ≤ 100) (hk : k ≤ 50)  : Ex E (d + 3) mX12_readStatement 0 [.ref m, .retAddr 0, .retAddr 0] [] h (fun r1 h1 => r1 = none ∧ (∃ g2 ρ2, MAt h1 m g2 K F T S C ρ2 kp ∧ g2 16 = (rs1 xs p).1 ∧ g2 15 = (((rs1 xs p).2 : Nat) : Int) ∧ g2 17 = ((k + 1 : Nat) : Int) ∧ ((rs1 xs p).1 = 0 → p < xs.length → Told ρ2 xs k p) ∧ KeepT ρ ρ2 k ∧ ∀ j, j ≠ 15 → j ≠ 16 → j ≠ 17 → g2 j = g j) ∧ Fr h h1 m (m + 23)) := by
  have hhr : ∀ i, -2147483648 ≤ hre xs i ∧ hre xs i ≤ 2147483647 := by
    intro i
    unfold hre
    by_cases c : i < xs.length
    · rw [if_pos c]; exact (hx i c).2
    · rw [if_neg c]; omega
  have hh := hhr p
  by_cases q1 : dB (hre xs p) = -1
  · refine Ex_aload_n dX12_readStatement_0 rfl rfl ?_
    refine Ex_getf dX12_readStatement_1 rfl (ma0 M) rfl rfl rfl ?_
    rw [h17]
    refine Ex_istore_n (L2 := [_, _, _]) dX12_readStatement_4 rfl rfl rfl ?_
    refine Ex_aload_n dX12_readStatement_5 rfl rfl ?_
    refine Ex_inv 2 dX12_readStatement_6 rfl rfl (Or.inl rfl) rfl rfl rfl rfl (ma0 M) rfl rfl rfl (Ex_post (x12_here (i := p) M ha h14 hlen hl2 hx h15 (by omega)) ?_)
    rintro _ _ ⟨rfl, e0⟩
    obtain rfl := Eq.symm e0
    refine Ex_istore_n (L2 := [_, _, _]) dX12_readStatement_9 rfl rfl rfl ?_
    refine Ex_aload_n dX12_readStatement_10 rfl rfl ?_
    refine Ex_getf dX12_readStatement_11 rfl (ma0 M) rfl rfl rfl ?_
    refine Ex_iload_n dX12_readStatement_14 rfl rfl ?_
    refine Ex_aload_n dX12_readStatement_15 rfl rfl ?_
    refine Ex_getf dX12_readStatement_16 rfl (ma0 M) rfl rfl rfl ?_
    rw [h15]
    refine Ex_iast12 (c := k) dX12_readStatement_19 rfl (ma12 M) rfl (by omega) (by omega) ?_
    refine mg12 M ?_
    intro h1_ M1_ f1_
    refine Ex_aload_n dX12_readStatement_20 rfl rfl ?_
    refine Ex_getf dX12_readStatement_21 rfl (ma0 M1_) rfl rfl rfl ?_
    refine Ex_iload_n dX12_readStatement_24 rfl rfl ?_
    refine Ex_iload_n dX12_readStatement_25 rfl rfl ?_
    refine Ex_iast12 (c := k) dX12_readStatement_26 rfl (ma13 M1_) rfl (by omega) (by omega) ?_
    refine mg13 M1_ ?_
    intro h2_ M2_ f2_
    refine Ex_aload_n dX12_readStatement_27 rfl rfl ?_
    refine Ex_aload_n dX12_readStatement_28 rfl rfl ?_
    refine Ex_getf dX12_readStatement_29 rfl (ma0 M2_) rfl rfl rfl ?_
    rw [h16]
    refine Ex_if_ne (t := 42) dX12_readStatement_32 rfl rfl (by omega) (fun c32 => absurd c32 (by omega)) (fun c32 => ?_)
    refine Ex_iload_n dX12_readStatement_35 rfl rfl ?_
    refine Ex_stat 0 dX12_readStatement_36 rfl rfl (Or.inl rfl) rfl rfl rfl rfl rfl rfl (Ex_post (x12_isLetter hh) ?_)
    rintro _ _ ⟨rfl, e0⟩
    obtain rfl := Eq.symm e0
    rw [if_pos q1]
    refine Ex_if_ne (t := 46) dX12_readStatement_39 rfl rfl (by omega) (fun c39 => absurd c39 (by omega)) (fun c39 => ?_)
    refine Ex_iconst dX12_readStatement_42 rfl ?_
    refine Ex_goto (t := 47) dX12_readStatement_43 rfl ?_
    refine Ex_put12 (k0 := 16) (v := 1) dX12_readStatement_47 rfl (ma0 M2_) rfl rfl rfl rfl rfl (by omega) rfl ?_
    refine mg0 M2_ ?_
    intro h3_ M3_ f3_
    refine Ex_aload_n dX12_readStatement_50 rfl rfl ?_
    refine Ex_dup dX12_readStatement_51 rfl rfl ?_
    refine Ex_getf dX12_readStatement_52 rfl (ma0 M3_) rfl rfl rfl ?_
    rw [show (fu g 16 1) 15 = g 15 from rfl]
    refine Ex_aload_n dX12_readStatement_55 rfl rfl ?_
    refine Ex_getf dX12_readStatement_56 rfl (ma0 M3_) rfl rfl rfl ?_
    rw [show (fu g 16 1) 16 = 1 from rfl]
    refine Ex_if_eq (t := 66) dX12_readStatement_59 rfl rfl (by omega) (fun c59 => absurd c59 (by omega)) (fun c59 => ?_)
    refine Ex_iconst dX12_readStatement_62 rfl ?_
    refine Ex_goto (t := 67) dX12_readStatement_63 rfl ?_
    refine Ex_iadd dX12_readStatement_67 rfl ?_
    refine Ex_put12 (k0 := 15) (v := (g 15 + 0)) dX12_readStatement_68 rfl (ma0 M3_) rfl rfl rfl rfl rfl (by omega) rfl ?_
    refine mg0 M3_ ?_
    intro h4_ M4_ f4_
    refine Ex_aload_n dX12_readStatement_71 rfl rfl ?_
    refine Ex_getf dX12_readStatement_72 rfl (ma0 M4_) rfl rfl rfl ?_
    rw [show (fu (fu g 16 1) 15 (g 15 + 0)) 16 = 1 from rfl]
    refine Ex_if_ne (t := 86) dX12_readStatement_75 rfl rfl (by omega) (fun c75 => ?_) (fun c75 => absurd c75 (by omega))
    refine Ex_aload_n dX12_readStatement_86 rfl rfl ?_
    refine Ex_aload_n dX12_readStatement_87 rfl rfl ?_
    refine Ex_getf dX12_readStatement_88 rfl (ma0 M4_) rfl rfl rfl ?_
    rw [show (fu (fu g 16 1) 15 (g 15 + 0)) 16 = 1 from rfl]
    refine Ex_if_ne (t := 103) dX12_readStatement_91 rfl rfl (by omega) (fun c91 => ?_) (fun c91 => absurd c91 (by omega))
    refine Ex_iconst dX12_readStatement_103 rfl ?_
    refine Ex_goto (t := 108) dX12_readStatement_104 rfl ?_
    refine Ex_put12 (k0 := 16) (v := 1) dX12_readStatement_108 rfl (ma0 M4_) rfl rfl rfl rfl rfl (by omega) rfl ?_
    refine mg0 M4_ ?_
    intro h5_ M5_ f5_
    refine Ex_aload_n dX12_readStatement_111 rfl rfl ?_
    refine Ex_dup dX12_readStatement_112 rfl rfl ?_
    refine Ex_getf dX12_readStatement_113 rfl (ma0 M5_) rfl rfl rfl ?_
    rw [show (fu (fu (fu g 16 1) 15 (g 15 + 0)) 16 1) 15 = (g 15 + 0) from rfl]
    refine Ex_aload_n dX12_readStatement_116 rfl rfl ?_
    refine Ex_getf dX12_readStatement_117 rfl (ma0 M5_) rfl rfl rfl ?_
    rw [show (fu (fu (fu g 16 1) 15 (g 15 + 0)) 16 1) 16 = 1 from rfl]
    refine Ex_if_eq (t := 127) dX12_readStatement_120 rfl rfl (by omega) (fun c120 => absurd c120 (by omega)) (fun c120 => ?_)
    refine Ex_iconst dX12_readStatement_123 rfl ?_
    refine Ex_goto (t := 128) dX12_readStatement_124 rfl ?_
    refine Ex_iadd dX12_readStatement_128 rfl ?_
    refine Ex_put12 (k0 := 15) (v := (g 15 + 0 + 0)) dX12_readStatement_129 rfl (ma0 M5_) rfl rfl rfl rfl rfl (by omega) rfl ?_
    refine mg0 M5_ ?_
    intro h6_ M6_ f6_
    refine Ex_aload_n dX12_readStatement_132 rfl rfl ?_
    refine Ex_dup dX12_readStatement_133 rfl rfl ?_
    refine Ex_getf dX12_readStatement_134 rfl (ma0 M6_) rfl rfl rfl ?_
    rw [show (fu (fu (fu (fu g 16 1) 15 (g 15 + 0)) 16 1) 15 (g 15 + 0 + 0)) 17 = g 17 from rfl]
    refine Ex_iconst dX12_readStatement_137 rfl ?_
    refine Ex_iadd dX12_readStatement_138 rfl ?_
    refine Ex_put12 (k0 := 17) (v := (g 17 + 1)) dX12_readStatement_139 rfl (ma0 M6_) rfl rfl rfl rfl rfl (by omega) rfl ?_
    refine mg0 M6_ ?_
    intro h7_ M7_ f7_
    refine Ex_vret dX12_readStatement_142 rfl ?_
    have e1 : rs1 xs p = (1, p) := if_pos q1
    rw [e1]
    refine ⟨rfl, ⟨_, _, M7_, rfl, (by show g 15 + 0 + 0 = _; omega), (by show g 17 + 1 = _; omega), (fun h _ => absurd h (by decide : ¬ (1 : Int) = 0)), ⟨fun j q1 q2 q3 => by rw [fuR_ne q2, fuR_ne q1], fun j hj => ⟨by rw [fuR_ne (by decide), fuR_at, fu_ne (by omega)], by rw [fuR_at, fuR_ne (by decide), fu_ne (by omega)]⟩, fun j hj => by rw [fuR_ne (by decide), fuR_ne (by decide)]⟩, fun j j1 j2 j3 => ?_⟩, (f1_.trans (f2_.trans (f3_.trans (f4_.trans (f5_.trans (f6_.trans f7_))))))⟩
    rw [fu_ne j3, fu_ne j1, fu_ne j2, fu_ne j1, fu_ne j2]
  have hh2 := hhr (rdw xs (dB (hre xs p)).toNat 0 (p + 1)).2
  have hwv := rdw_v (xs := xs) (dB (hre xs p)).toNat 0 (p + 1) (Or.inl rfl)
  have hdr := dB_r (hre xs p)
  by_cases q2 : (rdw xs (dB (hre xs p)).toNat 0 (p + 1)).1 = 0
  · by_cases q3 : hre xs (rdw xs (dB (hre xs p)).toNat 0 (p + 1)).2 = 59
    · refine Ex_aload_n dX12_readStatement_0 rfl rfl ?_
      refine Ex_getf dX12_readStatement_1 rfl (ma0 M) rfl rfl rfl ?_
      rw [h17]
      refine Ex_istore_n (L2 := [_, _, _]) dX12_readStatement_4 rfl rfl rfl ?_
      refine Ex_aload_n dX12_readStatement_5 rfl rfl ?_
      refine Ex_inv 2 dX12_readStatement_6 rfl rfl (Or.inl rfl) rfl rfl rfl rfl (ma0 M) rfl rfl rfl (Ex_post (x12_here (i := p) M ha h14 hlen hl2 hx h15 (by omega)) ?_)
      rintro _ _ ⟨rfl, e0⟩
      obtain rfl := Eq.symm e0
      refine Ex_istore_n (L2 := [_, _, _]) dX12_readStatement_9 rfl rfl rfl ?_
      refine Ex_aload_n dX12_readStatement_10 rfl rfl ?_
      refine Ex_getf dX12_readStatement_11 rfl (ma0 M) rfl rfl rfl ?_
      refine Ex_iload_n dX12_readStatement_14 rfl rfl ?_
      refine Ex_aload_n dX12_readStatement_15 rfl rfl ?_
      refine Ex_getf dX12_readStatement_16 rfl (ma0 M) rfl rfl rfl ?_
      rw [h15]
      refine Ex_iast12 (c := k) dX12_readStatement_19 rfl (ma12 M) rfl (by omega) (by omega) ?_
      refine mg12 M ?_
      intro h1_ M1_ f1_
      refine Ex_aload_n dX12_readStatement_20 rfl rfl ?_
      refine Ex_getf dX12_readStatement_21 rfl (ma0 M1_) rfl rfl rfl ?_
      refine Ex_iload_n dX12_readStatement_24 rfl rfl ?_
      refine Ex_iload_n dX12_readStatement_25 rfl rfl ?_
      refine Ex_iast12 (c := k) dX12_readStatement_26 rfl (ma13 M1_) rfl (by omega) (by omega) ?_
      refine mg13 M1_ ?_
      intro h2_ M2_ f2_
      refine Ex_aload_n dX12_readStatement_27 rfl rfl ?_
      refine Ex_aload_n dX12_readStatement_28 rfl rfl ?_
      refine Ex_getf dX12_readStatement_29 rfl (ma0 M2_) rfl rfl rfl ?_
      rw [h16]
      refine Ex_if_ne (t := 42) dX12_readStatement_32 rfl rfl (by omega) (fun c32 => absurd c32 (by omega)) (fun c32 => ?_)
      refine Ex_iload_n dX12_readStatement_35 rfl rfl ?_
      refine Ex_stat 0 dX12_readStatement_36 rfl rfl (Or.inl rfl) rfl rfl rfl rfl rfl rfl (Ex_post (x12_isLetter hh) ?_)
      rintro _ _ ⟨rfl, e0⟩
      obtain rfl := Eq.symm e0
      rw [if_neg q1]
      refine Ex_if_ne (t := 46) dX12_readStatement_39 rfl rfl (by omega) (fun c39 => ?_) (fun c39 => absurd c39 (by omega))
      refine Ex_iconst dX12_readStatement_46 rfl ?_
      refine Ex_put12 (k0 := 16) (v := 0) dX12_readStatement_47 rfl (ma0 M2_) rfl rfl rfl rfl rfl (by omega) rfl ?_
      refine mg0 M2_ ?_
      intro h3_ M3_ f3_
      refine Ex_aload_n dX12_readStatement_50 rfl rfl ?_
      refine Ex_dup dX12_readStatement_51 rfl rfl ?_
      refine Ex_getf dX12_readStatement_52 rfl (ma0 M3_) rfl rfl rfl ?_
      rw [show (fu g 16 0) 15 = g 15 from rfl]
      refine Ex_aload_n dX12_readStatement_55 rfl rfl ?_
      refine Ex_getf dX12_readStatement_56 rfl (ma0 M3_) rfl rfl rfl ?_
      rw [show (fu g 16 0) 16 = 0 from rfl]
      refine Ex_if_eq (t := 66) dX12_readStatement_59 rfl rfl (by omega) (fun c59 => ?_) (fun c59 => absurd c59 (by omega))
      refine Ex_iconst dX12_readStatement_66 rfl ?_
      refine Ex_iadd dX12_readStatement_67 rfl ?_
      refine Ex_put12 (k0 := 15) (v := (g 15 + 1)) dX12_readStatement_68 rfl (ma0 M3_) rfl rfl rfl rfl rfl (by omega) rfl ?_
      refine mg0 M3_ ?_
      intro h4_ M4_ f4_
      refine Ex_aload_n dX12_readStatement_71 rfl rfl ?_
      refine Ex_getf dX12_readStatement_72 rfl (ma0 M4_) rfl rfl rfl ?_
      rw [show (fu (fu g 16 0) 15 (g 15 + 1)) 16 = 0 from rfl]
      refine Ex_if_ne (t := 86) dX12_readStatement_75 rfl rfl (by omega) (fun c75 => absurd c75 (by omega)) (fun c75 => ?_)
      refine Ex_aload_n dX12_readStatement_78 rfl rfl ?_
      refine Ex_iload_n dX12_readStatement_79 rfl rfl ?_
      refine Ex_iconst dX12_readStatement_80 rfl ?_
      refine Ex_iload_n dX12_readStatement_81 rfl rfl ?_
      refine Ex_imul dX12_readStatement_82 rfl ?_
      rw [show (3 : Int) * (k : Int) = ((3 * k : Nat) : Int) by omega]
      refine Ex_inv 2 dX12_readStatement_83 rfl rfl (Or.inl rfl) rfl rfl rfl rfl (ma0 M4_) rfl rfl rfl (Ex_post (x12_readNumbers (i := p) M4_ hB ha (by simp only [fuR_ne (show (10 : Nat) ≠ 12 by decide), fuR_ne (show (10 : Nat) ≠ 13 by decide)]; exact hlen) hl2 (by simp only [fuR_ne (show (11 : Nat) ≠ 12 by decide), fuR_ne (show (11 : Nat) ≠ 13 by decide)]; exact hx) h14 (by show g 15 + 1 = _; omega) rfl (by omega) (by omega) hh q1) ?_)
      rintro _ h5_ ⟨rfl, ⟨gA, fA, M5_, t16, t15, tN, e5, e6⟩, f5_⟩
      have t17 : gA 17 = (k : Int) := by rw [e6 _ (by decide) (by decide)]; exact h17
      refine Ex_aload_n dX12_readStatement_86 rfl rfl ?_
      refine Ex_aload_n dX12_readStatement_87 rfl rfl ?_
      refine Ex_getf dX12_readStatement_88 rfl (ma0 M5_) rfl rfl rfl ?_
      rw [t16, q2]
      refine Ex_if_ne (t := 103) dX12_readStatement_91 rfl rfl (by omega) (fun c91 => absurd c91 (by omega)) (fun c91 => ?_)
      refine Ex_aload_n dX12_readStatement_94 rfl rfl ?_
      refine Ex_inv 2 dX12_readStatement_95 rfl rfl (Or.inl rfl) rfl rfl rfl rfl (ma0 M5_) rfl rfl rfl (Ex_post (x12_here (i := (rdw xs (dB (hre xs p)).toNat 0 (p + 1)).2) M5_ ha (by rw [e6 _ (by decide) (by decide)]; exact h14) (by simp only [fuR_ne (show (10 : Nat) ≠ 12 by decide), fuR_ne (show (10 : Nat) ≠ 13 by decide), fuR_ne (show (10 : Nat) ≠ 14 by decide)]; exact hlen) hl2 (by simp only [fuR_ne (show (11 : Nat) ≠ 12 by decide), fuR_ne (show (11 : Nat) ≠ 13 by decide), fuR_ne (show (11 : Nat) ≠ 14 by decide)]; exact hx) t15 (by omega)) ?_)
      rintro _ _ ⟨rfl, e0⟩
      obtain rfl := Eq.symm e0
      refine Ex_bipush dX12_readStatement_98 rfl (by decide) ?_
      refine Ex_icmp_eq (t := 107) dX12_readStatement_100 rfl rfl (by omega) (fun c100 => ?_) (fun c100 => absurd c100 (by omega))
      refine Ex_iconst dX12_readStatement_107 rfl ?_
      refine Ex_put12 (k0 := 16) (v := 0) dX12_readStatement_108 rfl (ma0 M5_) rfl rfl rfl rfl rfl (by omega) rfl ?_
      refine mg0 M5_ ?_
      intro h6_ M6_ f6_
      refine Ex_aload_n dX12_readStatement_111 rfl rfl ?_
      refine Ex_dup dX12_readStatement_112 rfl rfl ?_
      refine Ex_getf dX12_readStatement_113 rfl (ma0 M6_) rfl rfl rfl ?_
      rw [show (fu gA 16 0) 15 = gA 15 from rfl]
      refine Ex_aload_n dX12_readStatement_116 rfl rfl ?_
      refine Ex_getf dX12_readStatement_117 rfl (ma0 M6_) rfl rfl rfl ?_
      rw [show (fu gA 16 0) 16 = 0 from rfl]
      refine Ex_if_eq (t := 127) dX12_readStatement_120 rfl rfl (by omega) (fun c120 => ?_) (fun c120 => absurd c120 (by omega))
      refine Ex_iconst dX12_readStatement_127 rfl ?_
      refine Ex_iadd dX12_readStatement_128 rfl ?_
      refine Ex_put12 (k0 := 15) (v := (gA 15 + 1)) dX12_readStatement_129 rfl (ma0 M6_) rfl rfl rfl rfl rfl (by omega) rfl ?_
      refine mg0 M6_ ?_
      intro h7_ M7_ f7_
      refine Ex_aload_n dX12_readStatement_132 rfl rfl ?_
      refine Ex_dup dX12_readStatement_133 rfl rfl ?_
      refine Ex_getf dX12_readStatement_134 rfl (ma0 M7_) rfl rfl rfl ?_
      rw [show (fu (fu gA 16 0) 15 (gA 15 + 1)) 17 = gA 17 from rfl]
      refine Ex_iconst dX12_readStatement_137 rfl ?_
      refine Ex_iadd dX12_readStatement_138 rfl ?_
      refine Ex_put12 (k0 := 17) (v := (gA 17 + 1)) dX12_readStatement_139 rfl (ma0 M7_) rfl rfl rfl rfl rfl (by omega) rfl ?_
      refine mg0 M7_ ?_
      intro h8_ M8_ f8_
      refine Ex_vret dX12_readStatement_142 rfl ?_
      have e1 : rs1 xs p = (0, (rdw xs (dB (hre xs p)).toNat 0 (p + 1)).2 + 1) := by unfold rs1; rw [if_neg q1, if_pos q2, if_pos q3]
      rw [e1]
      refine ⟨rfl, ⟨_, _, M8_, rfl, (by show gA 15 + 1 = _; omega), (by show gA 17 + 1 = _; omega), (fun hz hl => ⟨by rw [fuR_ne (by decide), fuR_ne (by decide), fuR_at, fu_at], by rw [fuR_ne (by decide), fuR_at, fu_at]; exact hre_gx hl, by rw [fuR_at, ← hre_gx hl]; exact tN q2 (by omega)⟩), ⟨fun j q1 q2 q3 => by rw [fuR_ne q3, fuR_ne q2, fuR_ne q1], fun j hj => ⟨by rw [fuR_ne (by decide), fuR_ne (by decide), fuR_at, fu_ne (by omega)], by rw [fuR_ne (by decide), fuR_at, fuR_ne (by decide), fu_ne (by omega)]⟩, fun j hj => by rw [fuR_at, e5 j (by omega), fuR_ne (by decide), fuR_ne (by decide)]⟩, fun j j1 j2 j3 => ?_⟩, (f1_.trans (f2_.trans (f3_.trans (f4_.trans (f5_.trans (f6_.trans (f7_.trans f8_)))))))⟩
      rw [fu_ne j3, fu_ne j1, fu_ne j2, e6 j j1 j2, fu_ne j1, fu_ne j2]
    · refine Ex_aload_n dX12_readStatement_0 rfl rfl ?_
      refine Ex_getf dX12_readStatement_1 rfl (ma0 M) rfl rfl rfl ?_
      rw [h17]
      refine Ex_istore_n (L2 := [_, _, _]) dX12_readStatement_4 rfl rfl rfl ?_
      refine Ex_aload_n dX12_readStatement_5 rfl rfl ?_
      refine Ex_inv 2 dX12_readStatement_6 rfl rfl (Or.inl rfl) rfl rfl rfl rfl (ma0 M) rfl rfl rfl (Ex_post (x12_here (i := p) M ha h14 hlen hl2 hx h15 (by omega)) ?_)
      rintro _ _ ⟨rfl, e0⟩
      obtain rfl := Eq.symm e0
      refine Ex_istore_n (L2 := [_, _, _]) dX12_readStatement_9 rfl rfl rfl ?_
      refine Ex_aload_n dX12_readStatement_10 rfl rfl ?_
      refine Ex_getf dX12_readStatement_11 rfl (ma0 M) rfl rfl rfl ?_
      refine Ex_iload_n dX12_readStatement_14 rfl rfl ?_
      refine Ex_aload_n dX12_readStatement_15 rfl rfl ?_
      refine Ex_getf dX12_readStatement_16 rfl (ma0 M) rfl rfl rfl ?_
      rw [h15]
      refine Ex_iast12 (c := k) dX12_readStatement_19 rfl (ma12 M) rfl (by omega) (by omega) ?_
      refine mg12 M ?_
      intro h1_ M1_ f1_
      refine Ex_aload_n dX12_readStatement_20 rfl rfl ?_
      refine Ex_getf dX12_readStatement_21 rfl (ma0 M1_) rfl rfl rfl ?_
      refine Ex_iload_n dX12_readStatement_24 rfl rfl ?_
      refine Ex_iload_n dX12_readStatement_25 rfl rfl ?_
      refine Ex_iast12 (c := k) dX12_readStatement_26 rfl (ma13 M1_) rfl (by omega) (by omega) ?_
      refine mg13 M1_ ?_
      intro h2_ M2_ f2_
      refine Ex_aload_n dX12_readStatement_27 rfl rfl ?_
      refine Ex_aload_n dX12_readStatement_28 rfl rfl ?_
      refine Ex_getf dX12_readStatement_29 rfl (ma0 M2_) rfl rfl rfl ?_
      rw [h16]
      refine Ex_if_ne (t := 42) dX12_readStatement_32 rfl rfl (by omega) (fun c32 => absurd c32 (by omega)) (fun c32 => ?_)
      refine Ex_iload_n dX12_readStatement_35 rfl rfl ?_
      refine Ex_stat 0 dX12_readStatement_36 rfl rfl (Or.inl rfl) rfl rfl rfl rfl rfl rfl (Ex_post (x12_isLetter hh) ?_)
      rintro _ _ ⟨rfl, e0⟩
      obtain rfl := Eq.symm e0
      rw [if_neg q1]
      refine Ex_if_ne (t := 46) dX12_readStatement_39 rfl rfl (by omega) (fun c39 => ?_) (fun c39 => absurd c39 (by omega))
      refine Ex_iconst dX12_readStatement_46 rfl ?_
      refine Ex_put12 (k0 := 16) (v := 0) dX12_readStatement_47 rfl (ma0 M2_) rfl rfl rfl rfl rfl (by omega) rfl ?_
      refine mg0 M2_ ?_
      intro h3_ M3_ f3_
      refine Ex_aload_n dX12_readStatement_50 rfl rfl ?_
      refine Ex_dup dX12_readStatement_51 rfl rfl ?_
      refine Ex_getf dX12_readStatement_52 rfl (ma0 M3_) rfl rfl rfl ?_
      rw [show (fu g 16 0) 15 = g 15 from rfl]
      refine Ex_aload_n dX12_readStatement_55 rfl rfl ?_
      refine Ex_getf dX12_readStatement_56 rfl (ma0 M3_) rfl rfl rfl ?_
      rw [show (fu g 16 0) 16 = 0 from rfl]
      refine Ex_if_eq (t := 66) dX12_readStatement_59 rfl rfl (by omega) (fun c59 => ?_) (fun c59 => absurd c59 (by omega))
      refine Ex_iconst dX12_readStatement_66 rfl ?_
      refine Ex_iadd dX12_readStatement_67 rfl ?_
      refine Ex_put12 (k0 := 15) (v := (g 15 + 1)) dX12_readStatement_68 rfl (ma0 M3_) rfl rfl rfl rfl rfl (by omega) rfl ?_
      refine mg0 M3_ ?_
      intro h4_ M4_ f4_
      refine Ex_aload_n dX12_readStatement_71 rfl rfl ?_
      refine Ex_getf dX12_readStatement_72 rfl (ma0 M4_) rfl rfl rfl ?_
      rw [show (fu (fu g 16 0) 15 (g 15 + 1)) 16 = 0 from rfl]
      refine Ex_if_ne (t := 86) dX12_readStatement_75 rfl rfl (by omega) (fun c75 => absurd c75 (by omega)) (fun c75 => ?_)
      refine Ex_aload_n dX12_readStatement_78 rfl rfl ?_
      refine Ex_iload_n dX12_readStatement_79 rfl rfl ?_
      refine Ex_iconst dX12_readStatement_80 rfl ?_
      refine Ex_iload_n dX12_readStatement_81 rfl rfl ?_
      refine Ex_imul dX12_readStatement_82 rfl ?_
      rw [show (3 : Int) * (k : Int) = ((3 * k : Nat) : Int) by omega]
      refine Ex_inv 2 dX12_readStatement_83 rfl rfl (Or.inl rfl) rfl rfl rfl rfl (ma0 M4_) rfl rfl rfl (Ex_post (x12_readNumbers (i := p) M4_ hB ha (by simp only [fuR_ne (show (10 : Nat) ≠ 12 by decide), fuR_ne (show (10 : Nat) ≠ 13 by decide)]; exact hlen) hl2 (by simp only [fuR_ne (show (11 : Nat) ≠ 12 by decide), fuR_ne (show (11 : Nat) ≠ 13 by decide)]; exact hx) h14 (by show g 15 + 1 = _; omega) rfl (by omega) (by omega) hh q1) ?_)
      rintro _ h5_ ⟨rfl, ⟨gA, fA, M5_, t16, t15, tN, e5, e6⟩, f5_⟩
      have t17 : gA 17 = (k : Int) := by rw [e6 _ (by decide) (by decide)]; exact h17
      refine Ex_aload_n dX12_readStatement_86 rfl rfl ?_
      refine Ex_aload_n dX12_readStatement_87 rfl rfl ?_
      refine Ex_getf dX12_readStatement_88 rfl (ma0 M5_) rfl rfl rfl ?_
      rw [t16, q2]
      refine Ex_if_ne (t := 103) dX12_readStatement_91 rfl rfl (by omega) (fun c91 => absurd c91 (by omega)) (fun c91 => ?_)
      refine Ex_aload_n dX12_readStatement_94 rfl rfl ?_
      refine Ex_inv 2 dX12_readStatement_95 rfl rfl (Or.inl rfl) rfl rfl rfl rfl (ma0 M5_) rfl rfl rfl (Ex_post (x12_here (i := (rdw xs (dB (hre xs p)).toNat 0 (p + 1)).2) M5_ ha (by rw [e6 _ (by decide) (by decide)]; exact h14) (by simp only [fuR_ne (show (10 : Nat) ≠ 12 by decide), fuR_ne (show (10 : Nat) ≠ 13 by decide), fuR_ne (show (10 : Nat) ≠ 14 by decide)]; exact hlen) hl2 (by simp only [fuR_ne (show (11 : Nat) ≠ 12 by decide), fuR_ne (show (11 : Nat) ≠ 13 by decide), fuR_ne (show (11 : Nat) ≠ 14 by decide)]; exact hx) t15 (by omega)) ?_)
      rintro _ _ ⟨rfl, e0⟩
      obtain rfl := Eq.symm e0
      refine Ex_bipush dX12_readStatement_98 rfl (by decide) ?_
      refine Ex_icmp_eq (t := 107) dX12_readStatement_100 rfl rfl (by omega) (fun c100 => absurd c100 (by omega)) (fun c100 => ?_)
      refine Ex_iconst dX12_readStatement_103 rfl ?_
      refine Ex_goto (t := 108) dX12_readStatement_104 rfl ?_
      refine Ex_put12 (k0 := 16) (v := 1) dX12_readStatement_108 rfl (ma0 M5_) rfl rfl rfl rfl rfl (by omega) rfl ?_
      refine mg0 M5_ ?_
      intro h6_ M6_ f6_
      refine Ex_aload_n dX12_readStatement_111 rfl rfl ?_
      refine Ex_dup dX12_readStatement_112 rfl rfl ?_
      refine Ex_getf dX12_readStatement_113 rfl (ma0 M6_) rfl rfl rfl ?_
      rw [show (fu gA 16 1) 15 = gA 15 from rfl]
      refine Ex_aload_n dX12_readStatement_116 rfl rfl ?_
      refine Ex_getf dX12_readStatement_117 rfl (ma0 M6_) rfl rfl rfl ?_
      rw [show (fu gA 16 1) 16 = 1 from rfl]
      refine Ex_if_eq (t := 127) dX12_readStatement_120 rfl rfl (by omega) (fun c120 => absurd c120 (by omega)) (fun c120 => ?_)
      refine Ex_iconst dX12_readStatement_123 rfl ?_
      refine Ex_goto (t := 128) dX12_readStatement_124 rfl ?_
      refine Ex_iadd dX12_readStatement_128 rfl ?_
      refine Ex_put12 (k0 := 15) (v := (gA 15 + 0)) dX12_readStatement_129 rfl (ma0 M6_) rfl rfl rfl rfl rfl (by omega) rfl ?_
      refine mg0 M6_ ?_
      intro h7_ M7_ f7_
      refine Ex_aload_n dX12_readStatement_132 rfl rfl ?_
      refine Ex_dup dX12_readStatement_133 rfl rfl ?_
      refine Ex_getf dX12_readStatement_134 rfl (ma0 M7_) rfl rfl rfl ?_
      rw [show (fu (fu gA 16 1) 15 (gA 15 + 0)) 17 = gA 17 from rfl]
      refine Ex_iconst dX12_readStatement_137 rfl ?_
      refine Ex_iadd dX12_readStatement_138 rfl ?_
      refine Ex_put12 (k0 := 17) (v := (gA 17 + 1)) dX12_readStatement_139 rfl (ma0 M7_) rfl rfl rfl rfl rfl (by omega) rfl ?_
      refine mg0 M7_ ?_
      intro h8_ M8_ f8_
      refine Ex_vret dX12_readStatement_142 rfl ?_
      have e1 : rs1 xs p = (1, (rdw xs (dB (hre xs p)).toNat 0 (p + 1)).2) := by unfold rs1; rw [if_neg q1, if_pos q2, if_neg q3]
      rw [e1]
      refine ⟨rfl, ⟨_, _, M8_, rfl, (by show gA 15 + 0 = _; omega), (by show gA 17 + 1 = _; omega), (fun h _ => absurd h (by decide : ¬ (1 : Int) = 0)), ⟨fun j q1 q2 q3 => by rw [fuR_ne q3, fuR_ne q2, fuR_ne q1], fun j hj => ⟨by rw [fuR_ne (by decide), fuR_ne (by decide), fuR_at, fu_ne (by omega)], by rw [fuR_ne (by decide), fuR_at, fuR_ne (by decide), fu_ne (by omega)]⟩, fun j hj => by rw [fuR_at, e5 j (by omega), fuR_ne (by decide), fuR_ne (by decide)]⟩, fun j j1 j2 j3 => ?_⟩, (f1_.trans (f2_.trans (f3_.trans (f4_.trans (f5_.trans (f6_.trans (f7_.trans f8_)))))))⟩
      rw [fu_ne j3, fu_ne j1, fu_ne j2, e6 j j1 j2, fu_ne j1, fu_ne j2]
  · refine Ex_aload_n dX12_readStatement_0 rfl rfl ?_
    refine Ex_getf dX12_readStatement_1 rfl (ma0 M) rfl rfl rfl ?_
    rw [h17]
    refine Ex_istore_n (L2 := [_, _, _]) dX12_readStatement_4 rfl rfl rfl ?_
    refine Ex_aload_n dX12_readStatement_5 rfl rfl ?_
    refine Ex_inv 2 dX12_readStatement_6 rfl rfl (Or.inl rfl) rfl rfl rfl rfl (ma0 M) rfl rfl rfl (Ex_post (x12_here (i := p) M ha h14 hlen hl2 hx h15 (by omega)) ?_)
    rintro _ _ ⟨rfl, e0⟩
    obtain rfl := Eq.symm e0
    refine Ex_istore_n (L2 := [_, _, _]) dX12_readStatement_9 rfl rfl rfl ?_
    refine Ex_aload_n dX12_readStatement_10 rfl rfl ?_
    refine Ex_getf dX12_readStatement_11 rfl (ma0 M) rfl rfl rfl ?_
    refine Ex_iload_n dX12_readStatement_14 rfl rfl ?_
    refine Ex_aload_n dX12_readStatement_15 rfl rfl ?_
    refine Ex_getf dX12_readStatement_16 rfl (ma0 M) rfl rfl rfl ?_
    rw [h15]
    refine Ex_iast12 (c := k) dX12_readStatement_19 rfl (ma12 M) rfl (by omega) (by omega) ?_
    refine mg12 M ?_
    intro h1_ M1_ f1_
    refine Ex_aload_n dX12_readStatement_20 rfl rfl ?_
    refine Ex_getf dX12_readStatement_21 rfl (ma0 M1_) rfl rfl rfl ?_
    refine Ex_iload_n dX12_readStatement_24 rfl rfl ?_
    refine Ex_iload_n dX12_readStatement_25 rfl rfl ?_
    refine Ex_iast12 (c := k) dX12_readStatement_26 rfl (ma13 M1_) rfl (by omega) (by omega) ?_
    refine mg13 M1_ ?_
    intro h2_ M2_ f2_
    refine Ex_aload_n dX12_readStatement_27 rfl rfl ?_
    refine Ex_aload_n dX12_readStatement_28 rfl rfl ?_
    refine Ex_getf dX12_readStatement_29 rfl (ma0 M2_) rfl rfl rfl ?_
    rw [h16]
    refine Ex_if_ne (t := 42) dX12_readStatement_32 rfl rfl (by omega) (fun c32 => absurd c32 (by omega)) (fun c32 => ?_)
    refine Ex_iload_n dX12_readStatement_35 rfl rfl ?_
    refine Ex_stat 0 dX12_readStatement_36 rfl rfl (Or.inl rfl) rfl rfl rfl rfl rfl rfl (Ex_post (x12_isLetter hh) ?_)
    rintro _ _ ⟨rfl, e0⟩
    obtain rfl := Eq.symm e0
    rw [if_neg q1]
    refine Ex_if_ne (t := 46) dX12_readStatement_39 rfl rfl (by omega) (fun c39 => ?_) (fun c39 => absurd c39 (by omega))
    refine Ex_iconst dX12_readStatement_46 rfl ?_
    refine Ex_put12 (k0 := 16) (v := 0) dX12_readStatement_47 rfl (ma0 M2_) rfl rfl rfl rfl rfl (by omega) rfl ?_
    refine mg0 M2_ ?_
    intro h3_ M3_ f3_
    refine Ex_aload_n dX12_readStatement_50 rfl rfl ?_
    refine Ex_dup dX12_readStatement_51 rfl rfl ?_
    refine Ex_getf dX12_readStatement_52 rfl (ma0 M3_) rfl rfl rfl ?_
    rw [show (fu g 16 0) 15 = g 15 from rfl]
    refine Ex_aload_n dX12_readStatement_55 rfl rfl ?_
    refine Ex_getf dX12_readStatement_56 rfl (ma0 M3_) rfl rfl rfl ?_
    rw [show (fu g 16 0) 16 = 0 from rfl]
    refine Ex_if_eq (t := 66) dX12_readStatement_59 rfl rfl (by omega) (fun c59 => ?_) (fun c59 => absurd c59 (by omega))
    refine Ex_iconst dX12_readStatement_66 rfl ?_
    refine Ex_iadd dX12_readStatement_67 rfl ?_
    refine Ex_put12 (k0 := 15) (v := (g 15 + 1)) dX12_readStatement_68 rfl (ma0 M3_) rfl rfl rfl rfl rfl (by omega) rfl ?_
    refine mg0 M3_ ?_
    intro h4_ M4_ f4_
    refine Ex_aload_n dX12_readStatement_71 rfl rfl ?_
    refine Ex_getf dX12_readStatement_72 rfl (ma0 M4_) rfl rfl rfl ?_
    rw [show (fu (fu g 16 0) 15 (g 15 + 1)) 16 = 0 from rfl]
    refine Ex_if_ne (t := 86) dX12_readStatement_75 rfl rfl (by omega) (fun c75 => absurd c75 (by omega)) (fun c75 => ?_)
    refine Ex_aload_n dX12_readStatement_78 rfl rfl ?_
    refine Ex_iload_n dX12_readStatement_79 rfl rfl ?_
    refine Ex_iconst dX12_readStatement_80 rfl ?_
    refine Ex_iload_n dX12_readStatement_81 rfl rfl ?_
    refine Ex_imul dX12_readStatement_82 rfl ?_
    rw [show (3 : Int) * (k : Int) = ((3 * k : Nat) : Int) by omega]
    refine Ex_inv 2 dX12_readStatement_83 rfl rfl (Or.inl rfl) rfl rfl rfl rfl (ma0 M4_) rfl rfl rfl (Ex_post (x12_readNumbers (i := p) M4_ hB ha (by simp only [fuR_ne (show (10 : Nat) ≠ 12 by decide), fuR_ne (show (10 : Nat) ≠ 13 by decide)]; exact hlen) hl2 (by simp only [fuR_ne (show (11 : Nat) ≠ 12 by decide), fuR_ne (show (11 : Nat) ≠ 13 by decide)]; exact hx) h14 (by show g 15 + 1 = _; omega) rfl (by omega) (by omega) hh q1) ?_)
    rintro _ h5_ ⟨rfl, ⟨gA, fA, M5_, t16, t15, tN, e5, e6⟩, f5_⟩
    have t17 : gA 17 = (k : Int) := by rw [e6 _ (by decide) (by decide)]; exact h17
    refine Ex_aload_n dX12_readStatement_86 rfl rfl ?_
    refine Ex_aload_n dX12_readStatement_87 rfl rfl ?_
    refine Ex_getf dX12_readStatement_88 rfl (ma0 M5_) rfl rfl rfl ?_
    rw [t16]
    refine Ex_if_ne (t := 103) dX12_readStatement_91 rfl rfl (by omega) (fun c91 => ?_) (fun c91 => absurd c91 (by omega))
    refine Ex_iconst dX12_readStatement_103 rfl ?_
    refine Ex_goto (t := 108) dX12_readStatement_104 rfl ?_
    refine Ex_put12 (k0 := 16) (v := 1) dX12_readStatement_108 rfl (ma0 M5_) rfl rfl rfl rfl rfl (by omega) rfl ?_
    refine mg0 M5_ ?_
    intro h6_ M6_ f6_
    refine Ex_aload_n dX12_readStatement_111 rfl rfl ?_
    refine Ex_dup dX12_readStatement_112 rfl rfl ?_
    refine Ex_getf dX12_readStatement_113 rfl (ma0 M6_) rfl rfl rfl ?_
    rw [show (fu gA 16 1) 15 = gA 15 from rfl]
    refine Ex_aload_n dX12_readStatement_116 rfl rfl ?_
    refine Ex_getf dX12_readStatement_117 rfl (ma0 M6_) rfl rfl rfl ?_
    rw [show (fu gA 16 1) 16 = 1 from rfl]
    refine Ex_if_eq (t := 127) dX12_readStatement_120 rfl rfl (by omega) (fun c120 => absurd c120 (by omega)) (fun c120 => ?_)
    refine Ex_iconst dX12_readStatement_123 rfl ?_
    refine Ex_goto (t := 128) dX12_readStatement_124 rfl ?_
    refine Ex_iadd dX12_readStatement_128 rfl ?_
    refine Ex_put12 (k0 := 15) (v := (gA 15 + 0)) dX12_readStatement_129 rfl (ma0 M6_) rfl rfl rfl rfl rfl (by omega) rfl ?_
    refine mg0 M6_ ?_
    intro h7_ M7_ f7_
    refine Ex_aload_n dX12_readStatement_132 rfl rfl ?_
    refine Ex_dup dX12_readStatement_133 rfl rfl ?_
    refine Ex_getf dX12_readStatement_134 rfl (ma0 M7_) rfl rfl rfl ?_
    rw [show (fu (fu gA 16 1) 15 (gA 15 + 0)) 17 = gA 17 from rfl]
    refine Ex_iconst dX12_readStatement_137 rfl ?_
    refine Ex_iadd dX12_readStatement_138 rfl ?_
    refine Ex_put12 (k0 := 17) (v := (gA 17 + 1)) dX12_readStatement_139 rfl (ma0 M7_) rfl rfl rfl rfl rfl (by omega) rfl ?_
    refine mg0 M7_ ?_
    intro h8_ M8_ f8_
    refine Ex_vret dX12_readStatement_142 rfl ?_
    have e1 : rs1 xs p = (1, (rdw xs (dB (hre xs p)).toNat 0 (p + 1)).2) := by unfold rs1; rw [if_neg q1, if_neg q2]
    rw [e1]
    refine ⟨rfl, ⟨_, _, M8_, rfl, (by show gA 15 + 0 = _; omega), (by show gA 17 + 1 = _; omega), (fun h _ => absurd h (by decide : ¬ (1 : Int) = 0)), ⟨fun j q1 q2 q3 => by rw [fuR_ne q3, fuR_ne q2, fuR_ne q1], fun j hj => ⟨by rw [fuR_ne (by decide), fuR_ne (by decide), fuR_at, fu_ne (by omega)], by rw [fuR_ne (by decide), fuR_at, fuR_ne (by decide), fu_ne (by omega)]⟩, fun j hj => by rw [fuR_at, e5 j (by omega), fuR_ne (by decide), fuR_ne (by decide)]⟩, fun j j1 j2 j3 => ?_⟩, (f1_.trans (f2_.trans (f3_.trans (f4_.trans (f5_.trans (f6_.trans (f7_.trans f8_)))))))⟩
    rw [fu_ne j3, fu_ne j1, fu_ne j2, e6 j j1 j2, fu_ne j1, fu_ne j2]
