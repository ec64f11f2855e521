/-! the reference: ALL SWIM, FORGET, the shelves (by program: wip/whole/spec_rh.py) -/
theorem bt_full {p : Nat → Bool} : ∀ (k c : Nat), bt p c k + 2 ^ c = (2 : Int) ^ (c + k) ↔ ∀ j, c ≤ j → j < c + k → p j = true
  | 0, c => by
    refine ⟨fun _ j h1 h2 => by omega, fun _ => by simp [bt]⟩
  | k + 1, c => by
    have ih := bt_full (p := p) k (c + 1)
    have h1 := bt_r (p := p) k (c + 1)
    have h2 := pow2_s c
    have h3 := pow2_pos c
    rw [show c + (k + 1) = c + 1 + k by omega]
    simp only [bt]
    cases hp : p c with
    | true =>
      rw [if_pos rfl]
      refine ⟨fun z j h4 h5 => ?_, fun z => ?_⟩
      · by_cases e : j = c
        · rw [e]; exact hp
        · exact ih.1 (by omega) j (by omega) h5
      · have := ih.2 (fun j h4 h5 => z j (by omega) h5)
        omega
    | false =>
      rw [if_neg (by decide)]
      refine ⟨fun z => by omega, fun z => ?_⟩
      have := z c (by omega) (by omega)
      rw [hp] at this
      cases this
theorem nx_none {S : Nat → Int} {n tu : Nat} : ∀ (k p : Nat), nx S n tu p k = none ↔ ∀ j, p ≤ j → j < p + k → ¬ S ((tu + j) % n) < 7
  | 0, p => ⟨fun _ j h1 h2 => by omega, fun _ => rfl⟩
  | k + 1, p => by
    have ih := nx_none (S := S) (n := n) (tu := tu) k (p + 1)
    simp only [nx]
    by_cases q : S ((tu + p) % n) < 7
    · rw [if_pos q]
      refine ⟨fun z => (by cases z), fun z => absurd q (z p (by omega) (by omega))⟩
    · rw [if_neg q, ih]
      refine ⟨fun z j h1 h2 => ?_, fun z j h1 h2 => z j (by omega) (by omega)⟩
      by_cases e : j = p
      · rw [e]; exact q
      · exact z j (by omega) (by omega)
theorem nx_all {S : Nat → Int} {n tu : Nat} (htu : tu ≤ n) : nx S n tu 0 n = none ↔ ∀ c, c < n → ¬ S c < 7 := by
  rw [nx_none]
  refine ⟨fun z c hc => ?_, fun z j h1 h2 => z _ (Nat.mod_lt _ (by omega))⟩
  by_cases e : tu ≤ c
  · have := z (c - tu) (by omega) (by omega)
    rwa [show tu + (c - tu) = c by omega, Nat.mod_eq_of_lt hc] at this
  · have := z (c + n - tu) (by omega) (by omega)
    rwa [show tu + (c + n - tu) = c + n by omega, Nat.add_mod_right, Nat.mod_eq_of_lt hc] at this
theorem al_iff {K F : Nat → Int} {n : Nat} {X : TS} (hg : RngX n X) (htu : X.2.1 ≤ n) : tw K F n X = -4 ↔ bt (swB X.2.2.2.1) 0 n = (2 : Int) ^ n - 1 := by
  have h1 := nx_all (S := X.2.2.2.1) htu
  have h2 := bt_full (p := swB X.2.2.2.1) n 0
  rw [Nat.zero_add] at h2
  have h3 : (2 : Int) ^ 0 = 1 := rfl
  rw [h3] at h2
  have h4 : (bt (swB X.2.2.2.1) 0 n = (2 : Int) ^ n - 1) ↔ (bt (swB X.2.2.2.1) 0 n + 1 = (2 : Int) ^ n) := by omega
  rw [h4, h2]
  have h5 : tw K F n X = -4 ↔ nx X.2.2.2.1 n X.2.1 0 n = none := by
    unfold tw
    cases nx X.2.2.2.1 n X.2.1 0 n with
    | none => simp
    | some c =>
      simp only [twc]
      refine ⟨fun z => ?_, fun z => (by cases z)⟩
      split at z <;> cases z
  rw [h5, h1]
  refine ⟨fun z j _ h6 => ?_, fun z c hc => ?_⟩
  · have := z j h6
    have := (hg j h6).2.1
    exact decide_eq_true (by omega)
  · have := of_decide_eq_true (z c (by omega) hc)
    omega
theorem fgt_v {n : Nat} {K F T S : Nat → Int} : ∀ (k : Nat) (w : Int), fgt n K F T S w k = -4 ∨ (w ≤ fgt n K F T S w k ∧ fgt n K F T S w k < w + k)
  | 0, w => Or.inl rfl
  | k + 1, w => by
    have := fgt_v (n := n) (K := K) (F := F) (T := T) (S := S) k (w + 1)
    simp only [fgt]
    split <;> omega
theorem fgt_snoc {n : Nat} {K F T S : Nat → Int} : ∀ (k : Nat) (w : Int), 0 ≤ w → fgt n K F T S w (k + 1) = if fgt n K F T S w k = -4 then (if bt (rdB K F (brT (w + k) n T) (brS (w + k) n S)) 0 n = 0 then w + k else -4) else fgt n K F T S w k
  | 0, w, hw => by
    have e : w + ((0 : Nat) : Int) = w := by omega
    rw [e]; simp only [fgt]; rw [if_pos trivial]
  | k + 1, w, hw => by
    have h1 := fgt_snoc (n := n) (K := K) (F := F) (T := T) (S := S) k (w + 1) (by omega)
    have e : w + ((k + 1 : Nat) : Int) = w + 1 + (k : Int) := by omega
    rw [e]
    have l : ∀ j, fgt n K F T S w (j + 1) = if bt (rdB K F (brT w n T) (brS w n S)) 0 n = 0 then w else fgt n K F T S (w + 1) j := fun _ => rfl
    rw [l (k + 1), l k]
    by_cases q : bt (rdB K F (brT w n T) (brS w n S)) 0 n = 0
    · rw [if_pos q, if_pos q, if_neg (by omega)]
    · rw [if_neg q, if_neg q, h1]
/-- the shelves as the reference keeps them -/
def Sv (σ : Nat → Nat → Int) (hw ck cf rs : Nat → Int) (rx : Nat → List Int) : Prop := ∀ d, d < 8 → σ 6 d = hw d ∧ (hw d = 0 ∨ hw d = 1 ∨ hw d = 2) ∧ (hw d = 1 → (σ 7 d = ck d ∧ σ 8 d = cf d) ∧ (0 ≤ ck d ∧ ck d ≤ 7) ∧ (0 ≤ cf d ∧ cf d ≤ 9)) ∧ (hw d = 2 → (σ 9 d = rs d ∧ 0 ≤ rs d ∧ rs d ≤ 2) ∧ σ 10 d = ((rx d).length : Int) ∧ (rx d).length ≤ 100 ∧ ∀ i, i < (rx d).length → σ 11 (100 * d + i) = (rx d).getD i 0 ∧ (-2147483648 ≤ (rx d).getD i 0 ∧ (rx d).getD i 0 ≤ 2147483647))
theorem Sv.cg {σ ρ : Nat → Nat → Int} {hw ck cf rs : Nat → Int} {rx : Nat → List Int} (V : Sv σ hw ck cf rs rx) (h : ∀ j, (6 ≤ j ∧ j ≤ 11) ∨ j = 16 → ρ j = σ j) : Sv ρ hw ck cf rs rx := by
  intro d hd
  rw [h 6 (by omega), h 7 (by omega), h 8 (by omega), h 9 (by omega), h 10 (by omega), h 11 (by omega)]
  exact V d hd
theorem Sv.h3 {σ : Nat → Nat → Int} {hw ck cf rs : Nat → Int} {rx : Nat → List Int} (V : Sv σ hw ck cf rs rx) : ∀ d, d < 8 → 0 ≤ σ 6 d ∧ σ 6 d ≤ 2 := by
  intro d hd
  obtain ⟨a, b, _⟩ := V d hd
  omega
theorem why_cg {f hw : Nat → Int} {a : Int} (h : ∀ d, d < 8 → f d = hw d) : why f a = why hw a := by
  unfold why
  split
  · rw [h _ (by omega)]
  · rfl
theorem Sv.keep {ρ ρ2 : Nat → Nat → Int} {hw ck cf rs : Nat → Int} {rx : Nat → List Int} {d : Nat} {w k f : Int} (V : Sv ρ hw ck cf rs rx) (hw3 : w = 0 ∨ w = 1) (hk : w = 1 → (0 ≤ k ∧ k ≤ 7) ∧ (0 ≤ f ∧ f ≤ 9)) (e6 : ρ2 6 = fu (ρ 6) d w) (e7 : ρ2 7 = fu (ρ 7) d k) (e8 : ρ2 8 = fu (ρ 8) d f) (e9 : ρ2 9 = ρ 9) (e10 : ρ2 10 = ρ 10) (e11 : ρ2 11 = ρ 11) : Sv ρ2 (fu hw d w) (fu ck d k) (fu cf d f) rs rx := by
  intro e he
  rw [e6, e7, e8, e9, e10, e11]
  by_cases q : e = d
  · subst q
    rw [fu_at, fu_at, fu_at, fu_at, fu_at, fu_at]
    exact ⟨rfl, by omega, fun z => ⟨⟨rfl, rfl⟩, hk z⟩, fun z => by omega⟩
  · rw [fu_ne q, fu_ne q, fu_ne q, fu_ne q, fu_ne q, fu_ne q]
    exact V e he
theorem Sv.row {ρ ρ2 : Nat → Nat → Int} {hw ck cf rs : Nat → Int} {rx : Nat → List Int} {d l : Nat} {s : Int} (V : Sv ρ hw ck cf rs rx) (hd : d < 8) (hl : l ≤ 100) (hs : 0 ≤ s ∧ s ≤ 2) (e6 : ρ2 6 = fu (ρ 6) d 2) (e7 : ρ2 7 = ρ 7) (e8 : ρ2 8 = ρ 8) (e9 : ρ2 9 = fu (ρ 9) d s) (e10 : ρ2 10 = fu (ρ 10) d (l : Int)) (e11 : ∀ j, (100 * d ≤ j ∧ j < 100 * d + 100 → ρ2 11 j = 0) ∧ (¬ (100 * d ≤ j ∧ j < 100 * d + 100) → ρ2 11 j = ρ 11 j)) : Sv ρ2 (fu hw d 2) ck cf (fu rs d s) (fuL rx d (List.replicate l 0)) := by
  intro e he
  rw [e6, e7, e8, e9, e10]
  by_cases q : e = d
  · subst q
    rw [fu_at, fu_at, fu_at, fu_at, fu_at, fuL_at]
    refine ⟨rfl, by omega, fun z => by omega, fun z => ⟨⟨rfl, hs⟩, by simp, by simp; omega, fun i hi => ?_⟩⟩
    rw [List.length_replicate] at hi
    rw [(e11 (100 * e + i)).1 (by omega)]
    have : (List.replicate l (0 : Int)).getD i 0 = 0 := by simp [List.getD, List.getElem?_replicate, hi]
    rw [this]
    omega
  · rw [fu_ne q, fu_ne q, fu_ne q, fu_ne q, fu_ne q, fuL_ne q]
    obtain ⟨v1, v2, v3, v4⟩ := V e he
    refine ⟨v1, v2, v3, fun z => ?_⟩
    obtain ⟨w1, w2, w3, w4⟩ := v4 z
    refine ⟨w1, w2, w3, fun i hi => ?_⟩
    rw [(e11 (100 * e + i)).2 (by omega)]
    exact w4 i hi
theorem Sv.cells {ρ ρ2 : Nat → Nat → Int} {hw ck cf rs : Nat → Int} {rx : Nat → List Int} {d : Nat} {ys : List Int} (V : Sv ρ hw ck cf rs rx) (h2 : hw d = 2) (hl : ys.length = (rx d).length) (e6 : ρ2 6 = ρ 6) (e7 : ρ2 7 = ρ 7) (e8 : ρ2 8 = ρ 8) (e9 : ρ2 9 = ρ 9) (e10 : ρ2 10 = ρ 10) (e11 : ∀ i, i < ys.length → ρ2 11 (100 * d + i) = ys.getD i 0 ∧ (-2147483648 ≤ ys.getD i 0 ∧ ys.getD i 0 ≤ 2147483647)) (e12 : ∀ j, ¬ (100 * d ≤ j ∧ j < 100 * d + 100) → ρ2 11 j = ρ 11 j) : Sv ρ2 hw ck cf rs (fuL rx d ys) := by
  intro e he
  rw [e6, e7, e8, e9, e10]
  obtain ⟨v1, v2, v3, v4⟩ := V e he
  by_cases q : e = d
  · subst q
    obtain ⟨w1, w2, w3, w4⟩ := v4 h2
    rw [fuL_at]
    exact ⟨v1, v2, v3, fun z => ⟨w1, by rw [w2, hl], by omega, e11⟩⟩
  · rw [fuL_ne q]
    refine ⟨v1, v2, v3, fun z => ?_⟩
    obtain ⟨w1, w2, w3, w4⟩ := v4 z
    refine ⟨w1, w2, w3, fun i hi => ?_⟩
    rw [e12 _ (by omega)]
    exact w4 i hi
theorem x12_wK {E : am_E} {d : Nat} {h : Hp} {m : Nat} {g K F T S C : Nat → Int} {ρ : Nat → Nat → Int} {kp : Value}  {hw ck cf rs : Nat → Int} {rx : Nat → List Int} {a : Int} (M : MAt h m g K F T S C ρ kp)  (V : Sv ρ hw ck cf rs rx) (ha : (-2147483648 ≤ a ∧ a ≤ 2147483647)) : Ex E (d + 1) mX12_wrongKept 0 [.ref m, .int (i32 a)] [] h (fun r1 h1 => r1 = some (.int (i32 (if (0 ≤ a ∧ a ≤ 7) ∧ hw a.toNat = 1 then 0 else why hw a))) ∧ h1 = h) := by
  refine Ex_post (x12_wrongKept (n := 0) M V.h3 ha) ?_
  rintro _ _ ⟨rfl, e0⟩
  obtain rfl := Eq.symm e0
  have ew : why (ρ 6) a = why hw a := why_cg (fun e he => (V e he).1)
  refine ⟨ri ?_, rfl⟩
  rw [ew]
  by_cases q : 0 ≤ a ∧ a ≤ 7
  · rw [(V a.toNat (by omega)).1]
  · rw [if_neg (fun z => q z.1), if_neg (fun z => q z.1)]
theorem x12_wR {E : am_E} {d : Nat} {h : Hp} {m : Nat} {g K F T S C : Nat → Int} {ρ : Nat → Nat → Int} {kp : Value}  {hw ck cf rs : Nat → Int} {rx : Nat → List Int} {a : Int} (M : MAt h m g K F T S C ρ kp)  (V : Sv ρ hw ck cf rs rx) (ha : (-2147483648 ≤ a ∧ a ≤ 2147483647)) : Ex E (d + 1) mX12_wrongRow 0 [.ref m, .int (i32 a)] [] h (fun r1 h1 => r1 = some (.int (i32 (if (0 ≤ a ∧ a ≤ 7) ∧ hw a.toNat = 2 then 0 else why hw a))) ∧ h1 = h) := by
  refine Ex_post (x12_wrongRow (n := 0) M V.h3 ha) ?_
  rintro _ _ ⟨rfl, e0⟩
  obtain rfl := Eq.symm e0
  have ew : why (ρ 6) a = why hw a := why_cg (fun e he => (V e he).1)
  refine ⟨ri ?_, rfl⟩
  rw [ew]
  by_cases q : 0 ≤ a ∧ a ≤ 7
  · rw [(V a.toNat (by omega)).1]
  · rw [if_neg (fun z => q z.1), if_neg (fun z => q z.1)]
theorem x12_allSwim_e {E : am_E} {d m n : Nat} {h : Hp} {mt hi a i : Int} {g K F T0 S0 C0 K2 F2 T2 S2 C2 : Nat → Int} {ρ σ : Nat → Nat → Int} {kp : Value} (M : MAt h m g K2 F2 T2 S2 C2 ρ kp) (h23 : g 23 = hi) (hσ : ∀ j, (6 ≤ j ∧ j ≤ 11) ∨ j = 16 → ρ j = σ j) (hpk : ∀ i, i < 32 → ρ 15 i = pk (n, mt, K, F, T0, S0, C0) i) (hB : E.2 ≤ m) (ha : 0 ≤ a ∧ a ≤ 100) (hi0 : 0 ≤ i ∧ i ≤ 1000) : Ex E (d + 6) mX12_allSwim 19 [.ref m, .int (i32 a), .int (i32 i)] [] h (fun r1 h1 => r1 = some (.int (i32 a)) ∧ MI h1 m (n, mt, K, F, T0, S0, C0) hi σ ∧ Fr h h1 m (m + 23)) := by
  by_cases q : 99 < i
  · refine Ex_iload_n dX12_allSwim_19 rfl rfl ?_
    refine Ex_bipush dX12_allSwim_20 rfl (by decide) ?_
    refine Ex_icmp_gt (t := 62) dX12_allSwim_22 rfl rfl (by omega) (fun c22 => ?_) (fun c22 => absurd c22 (by omega))
    refine Ex_aload_n dX12_allSwim_62 rfl rfl ?_
    refine Ex_inv 2 dX12_allSwim_63 rfl rfl (Or.inl rfl) rfl rfl rfl rfl (ma0 M) rfl rfl rfl (Ex_post (x12_closeI M h23 hσ hpk hB) ?_)
    rintro _ h9 ⟨rfl, y1, y2⟩
    refine Ex_iload_n dX12_allSwim_66 rfl rfl ?_
    refine Ex_iret dX12_allSwim_67 rfl rfl ?_
    exact ⟨rfl, y1, y2⟩
  · refine Ex_iload_n dX12_allSwim_19 rfl rfl ?_
    refine Ex_bipush dX12_allSwim_20 rfl (by decide) ?_
    refine Ex_icmp_gt (t := 62) dX12_allSwim_22 rfl rfl (by omega) (fun c22 => absurd c22 (by omega)) (fun c22 => ?_)
    refine Ex_iload_n dX12_allSwim_25 rfl rfl ?_
    refine Ex_if_ge (t := 62) dX12_allSwim_26 rfl rfl (by omega) (fun c26 => ?_) (fun c26 => absurd c26 (by omega))
    refine Ex_aload_n dX12_allSwim_62 rfl rfl ?_
    refine Ex_inv 2 dX12_allSwim_63 rfl rfl (Or.inl rfl) rfl rfl rfl rfl (ma0 M) rfl rfl rfl (Ex_post (x12_closeI M h23 hσ hpk hB) ?_)
    rintro _ h9 ⟨rfl, y1, y2⟩
    refine Ex_iload_n dX12_allSwim_66 rfl rfl ?_
    refine Ex_iret dX12_allSwim_67 rfl rfl ?_
    exact ⟨rfl, y1, y2⟩
theorem x12_allSwim_l {E : am_E} {d : Nat} {m n : Nat} {mt hi : Int} {K F T0 S0 C0 : Nat → Int} {σ : Nat → Nat → Int}  (hn6 : n ≤ 6) (hK : ∀ i, i < n → (0 ≤ K i ∧ K i ≤ 7) ∧ (0 ≤ F i ∧ F i ≤ 9)) (hB : E.2 ≤ m)  : ∀ (k : Nat) (i : Int) (X : TS) (g : Nat → Int) (ρ : Nat → Nat → Int) (kp : Value) (h : Hp), i + k = 100 → 0 ≤ i → MAt h m g K F X.2.2.1 X.2.2.2.1 X.2.2.2.2 ρ kp → g 0 = (n : Int) → g 6 = X.1 → g 33 = (X.2.1 : Int) → g 23 = hi → (∀ j, (6 ≤ j ∧ j ≤ 11) ∨ j = 16 → ρ j = σ j) → (∀ i, i < 32 → ρ 15 i = pk (n, mt, K, F, T0, S0, C0) i) → RngX n X → X.2.1 ≤ n → Ex E (d + 6) mX12_allSwim 19 [.ref m, .int (i32 (-4)), .int (i32 i)] [] h (fun r1 h1 => r1 = some (.int (i32 (alS K F n X i k))) ∧ MI h1 m (n, mt, K, F, T0, S0, C0) hi σ ∧ Fr h h1 m (m + 23)) := by
  intro k
  induction k with
  | zero =>
    intro i X g ρ kp h hk hi0 M hn h6 h33 h23 hσ hpk hgX htu
    refine Ex_iload_n dX12_allSwim_19 rfl rfl ?_
    refine Ex_bipush dX12_allSwim_20 rfl (by decide) ?_
    refine Ex_icmp_gt (t := 62) dX12_allSwim_22 rfl rfl (by omega) (fun c22 => ?_) (fun c22 => absurd c22 (by omega))
    refine Ex_aload_n dX12_allSwim_62 rfl rfl ?_
    refine Ex_inv 2 dX12_allSwim_63 rfl rfl (Or.inl rfl) rfl rfl rfl rfl (ma0 M) rfl rfl rfl (Ex_post (x12_closeI M h23 hσ hpk hB) ?_)
    rintro _ h9 ⟨rfl, y1, y2⟩
    refine Ex_iload_n dX12_allSwim_66 rfl rfl ?_
    refine Ex_iret dX12_allSwim_67 rfl rfl ?_
    exact ⟨rfl, y1, y2⟩
  | succ k ih =>
    intro i X g ρ kp h hk hi0 M hn h6 h33 h23 hσ hpk hgX htu
    have g8 := tst_r (K := K) (F := F) hgX (fun i hi => (hK i hi).2)
    have t8 := tst_tu (K := K) (F := F) htu
    have hb := bt_r (p := swB X.2.2.2.1) n 0
    rw [Nat.zero_add, show (2 : Int) ^ 0 = 1 from rfl] at hb
    have h64 : (2 : Int) ^ n ≤ 64 := by rcases (show n = 0 ∨ n = 1 ∨ n = 2 ∨ n = 3 ∨ n = 4 ∨ n = 5 ∨ n = 6 by omega) with e | e | e | e | e | e | e <;> rw [e] <;> decide
    have hai := al_iff (K := K) (F := F) hgX htu
    have ea : alS K F n X i (k + 1) = if tw K F n X = -4 then i else alS K F n (tst K F n X) (i + 1) k := rfl
    rw [ea]
    by_cases q : tw K F n X = -4
    · rw [if_pos q]
      have q9 := hai.1 q
      refine Ex_iload_n dX12_allSwim_19 rfl rfl ?_
      refine Ex_bipush dX12_allSwim_20 rfl (by decide) ?_
      refine Ex_icmp_gt (t := 62) dX12_allSwim_22 rfl rfl (by omega) (fun c22 => absurd c22 (by omega)) (fun c22 => ?_)
      refine Ex_iload_n dX12_allSwim_25 rfl rfl ?_
      refine Ex_if_ge (t := 62) dX12_allSwim_26 rfl rfl (by omega) (fun c26 => absurd c26 (by omega)) (fun c26 => ?_)
      refine Ex_aload_n dX12_allSwim_29 rfl rfl ?_
      refine Ex_inv 2 dX12_allSwim_30 rfl rfl (Or.inl rfl) rfl rfl rfl rfl (ma0 M) rfl rfl rfl (Ex_post (x12_swimBits M hn hn6 hgX hK) ?_)
      rintro _ _ ⟨rfl, e0⟩
      obtain rfl := Eq.symm e0
      refine Ex_iconst dX12_allSwim_33 rfl ?_
      refine Ex_aload_n dX12_allSwim_34 rfl rfl ?_
      refine Ex_getf dX12_allSwim_35 rfl (ma0 M) rfl rfl rfl ?_
      rw [hn]
      refine Ex_ishl (v := ((2 : Int) ^ n)) dX12_allSwim_38 rfl (shl_bit n (by omega)) ?_
      refine Ex_iconst dX12_allSwim_39 rfl ?_
      refine Ex_isub dX12_allSwim_40 rfl ?_
      refine Ex_icmp_ne (t := 48) dX12_allSwim_41 rfl rfl (by omega) (fun c41 => absurd c41 (by omega)) (fun c41 => ?_)
      refine Ex_iload_n dX12_allSwim_44 rfl rfl ?_
      refine Ex_goto (t := 50) dX12_allSwim_45 rfl ?_
      refine Ex_istore_n (L2 := [_, _, _]) dX12_allSwim_50 rfl rfl rfl ?_
      refine Ex_aload_n dX12_allSwim_51 rfl rfl ?_
      refine Ex_inv 2 dX12_allSwim_52 rfl rfl (Or.inl rfl) rfl rfl rfl rfl (ma0 M) rfl rfl rfl (Ex_post (x12_nextTurn M hn hn6 hgX hK hB h6 h33 htu) ?_)
      rintro _ h1_ ⟨rfl, ⟨g9_, M1_, t6, t33, e9⟩, f1_⟩
      refine Ex_pop dX12_allSwim_55 rfl rfl ?_
      refine Ex_iinc (L2 := [_, _, _]) dX12_allSwim_56 rfl rfl rfl ?_
      refine Ex_goto (t := 19) dX12_allSwim_59 rfl ?_
      refine Ex_post (x12_allSwim_e (hi := hi) M1_ (by rw [e9 _ (by decide) (by decide)]; exact h23) hσ hpk hB (by omega) (by omega)) ?_
      rintro r1 h1 ⟨rfl, y1, y2⟩
      exact ⟨rfl, y1, f1_.trans y2⟩
    · rw [if_neg q]
      have q9 : ¬ bt (swB X.2.2.2.1) 0 n = (2 : Int) ^ n - 1 := fun z => q (hai.2 z)
      refine Ex_iload_n dX12_allSwim_19 rfl rfl ?_
      refine Ex_bipush dX12_allSwim_20 rfl (by decide) ?_
      refine Ex_icmp_gt (t := 62) dX12_allSwim_22 rfl rfl (by omega) (fun c22 => absurd c22 (by omega)) (fun c22 => ?_)
      refine Ex_iload_n dX12_allSwim_25 rfl rfl ?_
      refine Ex_if_ge (t := 62) dX12_allSwim_26 rfl rfl (by omega) (fun c26 => absurd c26 (by omega)) (fun c26 => ?_)
      refine Ex_aload_n dX12_allSwim_29 rfl rfl ?_
      refine Ex_inv 2 dX12_allSwim_30 rfl rfl (Or.inl rfl) rfl rfl rfl rfl (ma0 M) rfl rfl rfl (Ex_post (x12_swimBits M hn hn6 hgX hK) ?_)
      rintro _ _ ⟨rfl, e0⟩
      obtain rfl := Eq.symm e0
      refine Ex_iconst dX12_allSwim_33 rfl ?_
      refine Ex_aload_n dX12_allSwim_34 rfl rfl ?_
      refine Ex_getf dX12_allSwim_35 rfl (ma0 M) rfl rfl rfl ?_
      rw [hn]
      refine Ex_ishl (v := ((2 : Int) ^ n)) dX12_allSwim_38 rfl (shl_bit n (by omega)) ?_
      refine Ex_iconst dX12_allSwim_39 rfl ?_
      refine Ex_isub dX12_allSwim_40 rfl ?_
      refine Ex_icmp_ne (t := 48) dX12_allSwim_41 rfl rfl (by omega) (fun c41 => ?_) (fun c41 => absurd c41 (by omega))
      refine Ex_bipush dX12_allSwim_48 rfl (by decide) ?_
      refine Ex_istore_n (L2 := [_, _, _]) dX12_allSwim_50 rfl rfl rfl ?_
      refine Ex_aload_n dX12_allSwim_51 rfl rfl ?_
      refine Ex_inv 2 dX12_allSwim_52 rfl rfl (Or.inl rfl) rfl rfl rfl rfl (ma0 M) rfl rfl rfl (Ex_post (x12_nextTurn M hn hn6 hgX hK hB h6 h33 htu) ?_)
      rintro _ h1_ ⟨rfl, ⟨g9_, M1_, t6, t33, e9⟩, f1_⟩
      refine Ex_pop dX12_allSwim_55 rfl rfl ?_
      refine Ex_iinc (L2 := [_, _, _]) dX12_allSwim_56 rfl rfl rfl ?_
      refine Ex_goto (t := 19) dX12_allSwim_59 rfl ?_
      refine Ex_post (ih (i + 1) _ _ _ _ h1_ (by omega) (by omega) M1_ (by rw [e9 _ (by decide) (by decide)]; exact hn) t6 t33 (by rw [e9 _ (by decide) (by decide)]; exact h23) hσ hpk g8 t8) ?_
      rintro r1 h1 ⟨rfl, y1, y2⟩
      exact ⟨rfl, y1, f1_.trans y2⟩
theorem x12_allSwim {E : am_E} {d : Nat} {h : Hp} {m n : Nat} {mm hi : Int} {K F T S C : Nat → Int} {σ : Nat → Nat → Int}  (I : MI h m (n, mm, K, F, T, S, C) hi σ) (hn6 : n ≤ 6) (hg : Rng n T S C) (hK : ∀ i, i < n → (0 ≤ K i ∧ K i ≤ 7) ∧ (0 ≤ F i ∧ F i ≤ 9)) (hB : E.2 ≤ m)  : Ex E (d + 6) mX12_allSwim 0 [.ref m, .retAddr 0, .retAddr 0] [] h (fun r1 h1 => r1 = some (.int (i32 (alS K F n (mm, 0, T, S, C) 0 100))) ∧ MI h1 m (n, mm, K, F, T, S, C) hi σ ∧ Fr h h1 m (m + 23)) := by
  obtain ⟨g, ρ, kp, M, hn, h6, h23, hσ⟩ := I
  have M : MAt h m g K F T S C ρ kp := M
  have hn : g 0 = (n : Int) := hn
  have h6 : g 6 = mm := h6
  refine Ex_aload_n dX12_allSwim_0 rfl rfl ?_
  refine Ex_iconst dX12_allSwim_1 rfl ?_
  refine Ex_put12 (k0 := 13) (v := 0) dX12_allSwim_2 rfl (ma0 M) rfl rfl rfl rfl rfl (by omega) rfl ?_
  refine mg0 M ?_
  intro h1_ M1_ f1_
  refine Ex_bipush dX12_allSwim_5 rfl (by decide) ?_
  refine Ex_istore_n (L2 := [_, _, _]) dX12_allSwim_7 rfl rfl rfl ?_
  refine Ex_aload_n dX12_allSwim_8 rfl rfl ?_
  refine Ex_iconst dX12_allSwim_9 rfl ?_
  refine Ex_put12 (k0 := 33) (v := 0) dX12_allSwim_10 rfl (ma0 M1_) rfl rfl rfl rfl rfl (by omega) rfl ?_
  refine mg0 M1_ ?_
  intro h2_ M2_ f2_
  refine Ex_aload_n dX12_allSwim_13 rfl rfl ?_
  refine Ex_inv 2 dX12_allSwim_14 rfl rfl (Or.inl rfl) rfl rfl rfl rfl (ma0 M2_) rfl rfl rfl (Ex_post (x12_open M2_ hn h6 hB) ?_)
  rintro _ h3_ ⟨rfl, ⟨g2_, fo_, M3_, hpk, e2⟩, f3_⟩
  refine Ex_iconst dX12_allSwim_17 rfl ?_
  refine Ex_istore_n (L2 := [_, _, _]) dX12_allSwim_18 rfl rfl rfl ?_
  have hn2 : g2_ 0 = (n : Int) := by rw [e2 _ (by decide) (by decide)]; exact hn
  have h62 : g2_ 6 = mm := by rw [e2 _ (by decide) (by decide)]; exact h6
  have h232 : g2_ 23 = hi := by rw [e2 _ (by decide) (by decide)]; exact h23
  have hσ2 : ∀ j, (6 ≤ j ∧ j ≤ 11) ∨ j = 16 → fuR ρ 15 fo_ j = σ j := fun j hj => by rw [fuR_ne (by omega)]; exact hσ j hj
  have hpk2 : ∀ i, i < 32 → fuR ρ 15 fo_ 15 i = pk (n, mm, K, F, T, S, C) i := fun i hi => by rw [fuR_at]; exact hpk i hi
  refine Ex_post (x12_allSwim_l hn6 hK hB 100 0 (mm, 0, T, S, C) _ _ _ h3_ (by omega) (by omega) M3_ hn2 h62 (by rw [e2 _ (by decide) (by decide)]; rfl) h232 hσ2 hpk2 hg (Nat.zero_le _)) ?_
  rintro r1 h1 ⟨rfl, y1, y2⟩
  exact ⟨rfl, y1, (f1_.trans (f2_.trans f3_)).trans y2⟩
theorem x12_forget_l {E : am_E} {d m n : Nat} {mm hi : Int} {K F T S C : Nat → Int} {σ : Nat → Nat → Int} (hn6 : n ≤ 6) (hg : Rng n T S C) (hK : ∀ i, i < n → (0 ≤ K i ∧ K i ≤ 7) ∧ (0 ≤ F i ∧ F i ≤ 9)) (hB : E.2 ≤ m) : ∀ (k : Nat) (a : Int) (h : Hp), k ≤ 10 → MI h m (n, mm, K, F, T, S, C) hi σ → Ex E (d + 4) mX12_forget 11 [.ref m, .int (i32 a), .int (i32 ((k : Int) - 1))] [] h (fun r1 h1 => r1 = some (.int (i32 (if fgt n K F T S 0 k = -4 then a else fgt n K F T S 0 k))) ∧ MI h1 m (n, mm, K, F, T, S, C) hi σ ∧ Fr h h1 m (m + 23)) := by
  intro k
  induction k with
  | zero =>
    intro a h hk I
    refine Ex_iload_n dX12_forget_11 rfl rfl ?_
    refine Ex_if_lt (t := 47) dX12_forget_12 rfl rfl (by omega) (fun c12 => ?_) (fun c12 => absurd c12 (by omega))
    refine Ex_iload_n dX12_forget_47 rfl rfl ?_
    refine Ex_iret dX12_forget_48 rfl rfl ?_
    exact ⟨rfl, I, (Fr.rf _ _ _)⟩
  | succ k ih =>
    intro a h hk I
    obtain ⟨g, ρ, kp, M, hn, h6, h23, hσ⟩ := I
    have M : MAt h m g K F T S C ρ kp := M
    have hn : g 0 = (n : Int) := hn
    have h6 : g 6 = mm := h6
    have hbr := br_r hg (show 0 ≤ (k : Int) by omega)
    have hb := bt_256 (p := rdB K F (brT (k : Int) n T) (brS (k : Int) n S)) hn6
    have es := fgt_snoc (n := n) (K := K) (F := F) (T := T) (S := S) k 0 (by omega)
    rw [Int.zero_add] at es
    rw [show (((k + 1 : Nat) : Int) - 1) = (k : Int) by omega, es]
    by_cases q : bt (rdB K F (brT (k : Int) n T) (brS (k : Int) n S)) 0 n = 0
    · simp only [if_pos q]
      refine Ex_iload_n dX12_forget_11 rfl rfl ?_
      refine Ex_if_lt (t := 47) dX12_forget_12 rfl rfl (by omega) (fun c12 => absurd c12 (by omega)) (fun c12 => ?_)
      refine Ex_aload_n dX12_forget_15 rfl rfl ?_
      refine Ex_inv 2 dX12_forget_16 rfl rfl (Or.inl rfl) rfl rfl rfl rfl (ma0 M) rfl rfl rfl (Ex_post (x12_open M hn h6 hB) ?_)
      rintro _ h1_ ⟨rfl, ⟨g2_, fo_, M1_, hpk, e2⟩, f1_⟩
      have hn2 : g2_ 0 = (n : Int) := by rw [e2 _ (by decide) (by decide)]; exact hn
      have h62 : g2_ 6 = mm := by rw [e2 _ (by decide) (by decide)]; exact h6
      have h232 : g2_ 23 = hi := by rw [e2 _ (by decide) (by decide)]; exact h23
      have hσ2 : ∀ j, (6 ≤ j ∧ j ≤ 11) ∨ j = 16 → fuR ρ 15 fo_ j = σ j := fun j hj => by rw [fuR_ne (by omega)]; exact hσ j hj
      have hpk2 : ∀ i, i < 32 → fuR ρ 15 fo_ 15 i = pk (n, mm, K, F, T, S, C) i := fun i hi => by rw [fuR_at]; exact hpk i hi
      refine Ex_aload_n dX12_forget_19 rfl rfl ?_
      refine Ex_iload_n dX12_forget_20 rfl rfl ?_
      refine Ex_inv 2 dX12_forget_21 rfl rfl (Or.inl rfl) rfl rfl rfl rfl (ma0 M1_) rfl rfl rfl (Ex_post (x12_goBreak M1_ hn2 hn6 hg hB (by omega)) ?_)
      rintro _ h2_ ⟨rfl, M2_, f2_⟩
      refine Ex_aload_n dX12_forget_24 rfl rfl ?_
      refine Ex_inv 2 dX12_forget_25 rfl rfl (Or.inl rfl) rfl rfl rfl rfl (ma0 M2_) rfl rfl rfl (Ex_post (x12_readyBits M2_ hn2 hn6 hbr hK) ?_)
      rintro _ _ ⟨rfl, e0⟩
      obtain rfl := Eq.symm e0
      refine Ex_if_ne (t := 35) dX12_forget_28 rfl rfl (by omega) (fun c28 => absurd c28 (by omega)) (fun c28 => ?_)
      refine Ex_iload_n dX12_forget_31 rfl rfl ?_
      refine Ex_goto (t := 36) dX12_forget_32 rfl ?_
      refine Ex_istore_n (L2 := [_, _, _]) dX12_forget_36 rfl rfl rfl ?_
      refine Ex_aload_n dX12_forget_37 rfl rfl ?_
      refine Ex_inv 2 dX12_forget_38 rfl rfl (Or.inl rfl) rfl rfl rfl rfl (ma0 M2_) rfl rfl rfl (Ex_post (x12_closeI M2_ h232 hσ2 hpk2 hB) ?_)
      rintro _ h9 ⟨rfl, y1, y2⟩
      refine Ex_iinc (L2 := [_, _, _]) dX12_forget_41 rfl rfl rfl ?_
      refine Ex_goto (t := 11) dX12_forget_44 rfl ?_
      refine Ex_post (ih (k : Int) _ (by omega) y1) ?_
      rintro r1 h1 ⟨rfl, z1, z2⟩
      exact ⟨ri (by (repeat' split) <;> omega), z1, ((f1_.trans f2_).trans y2).trans z2⟩
    · simp only [if_neg q]
      refine Ex_iload_n dX12_forget_11 rfl rfl ?_
      refine Ex_if_lt (t := 47) dX12_forget_12 rfl rfl (by omega) (fun c12 => absurd c12 (by omega)) (fun c12 => ?_)
      refine Ex_aload_n dX12_forget_15 rfl rfl ?_
      refine Ex_inv 2 dX12_forget_16 rfl rfl (Or.inl rfl) rfl rfl rfl rfl (ma0 M) rfl rfl rfl (Ex_post (x12_open M hn h6 hB) ?_)
      rintro _ h1_ ⟨rfl, ⟨g2_, fo_, M1_, hpk, e2⟩, f1_⟩
      have hn2 : g2_ 0 = (n : Int) := by rw [e2 _ (by decide) (by decide)]; exact hn
      have h62 : g2_ 6 = mm := by rw [e2 _ (by decide) (by decide)]; exact h6
      have h232 : g2_ 23 = hi := by rw [e2 _ (by decide) (by decide)]; exact h23
      have hσ2 : ∀ j, (6 ≤ j ∧ j ≤ 11) ∨ j = 16 → fuR ρ 15 fo_ j = σ j := fun j hj => by rw [fuR_ne (by omega)]; exact hσ j hj
      have hpk2 : ∀ i, i < 32 → fuR ρ 15 fo_ 15 i = pk (n, mm, K, F, T, S, C) i := fun i hi => by rw [fuR_at]; exact hpk i hi
      refine Ex_aload_n dX12_forget_19 rfl rfl ?_
      refine Ex_iload_n dX12_forget_20 rfl rfl ?_
      refine Ex_inv 2 dX12_forget_21 rfl rfl (Or.inl rfl) rfl rfl rfl rfl (ma0 M1_) rfl rfl rfl (Ex_post (x12_goBreak M1_ hn2 hn6 hg hB (by omega)) ?_)
      rintro _ h2_ ⟨rfl, M2_, f2_⟩
      refine Ex_aload_n dX12_forget_24 rfl rfl ?_
      refine Ex_inv 2 dX12_forget_25 rfl rfl (Or.inl rfl) rfl rfl rfl rfl (ma0 M2_) rfl rfl rfl (Ex_post (x12_readyBits M2_ hn2 hn6 hbr hK) ?_)
      rintro _ _ ⟨rfl, e0⟩
      obtain rfl := Eq.symm e0
      refine Ex_if_ne (t := 35) dX12_forget_28 rfl rfl (by omega) (fun c28 => ?_) (fun c28 => absurd c28 (by omega))
      refine Ex_iload_n dX12_forget_35 rfl rfl ?_
      refine Ex_istore_n (L2 := [_, _, _]) dX12_forget_36 rfl rfl rfl ?_
      refine Ex_aload_n dX12_forget_37 rfl rfl ?_
      refine Ex_inv 2 dX12_forget_38 rfl rfl (Or.inl rfl) rfl rfl rfl rfl (ma0 M2_) rfl rfl rfl (Ex_post (x12_closeI M2_ h232 hσ2 hpk2 hB) ?_)
      rintro _ h9 ⟨rfl, y1, y2⟩
      refine Ex_iinc (L2 := [_, _, _]) dX12_forget_41 rfl rfl rfl ?_
      refine Ex_goto (t := 11) dX12_forget_44 rfl ?_
      refine Ex_post (ih a _ (by omega) y1) ?_
      rintro r1 h1 ⟨rfl, z1, z2⟩
      exact ⟨ri (by (repeat' split) <;> omega), z1, ((f1_.trans f2_).trans y2).trans z2⟩
theorem x12_forget {E : am_E} {d : Nat} {h : Hp} {m n : Nat} {mm hi : Int} {K F T S C : Nat → Int} {σ : Nat → Nat → Int}  (I : MI h m (n, mm, K, F, T, S, C) hi σ) (hn6 : n ≤ 6) (hg : Rng n T S C) (hK : ∀ i, i < n → (0 ≤ K i ∧ K i ≤ 7) ∧ (0 ≤ F i ∧ F i ≤ 9)) (hB : E.2 ≤ m)  : Ex E (d + 4) mX12_forget 0 [.ref m, .retAddr 0, .retAddr 0] [] h (fun r1 h1 => r1 = some (.int (i32 (fgt n K F T S 0 10))) ∧ MI h1 m (n, mm, K, F, T, S, C) hi σ ∧ Fr h h1 m (m + 23)) := by
  obtain ⟨g, ρ, kp, M, hn, h6, h23, hσ⟩ := I
  have M : MAt h m g K F T S C ρ kp := M
  have hn : g 0 = (n : Int) := hn
  have h6 : g 6 = mm := h6
  refine Ex_aload_n dX12_forget_0 rfl rfl ?_
  refine Ex_iconst dX12_forget_1 rfl ?_
  refine Ex_put12 (k0 := 13) (v := 0) dX12_forget_2 rfl (ma0 M) rfl rfl rfl rfl rfl (by omega) rfl ?_
  refine mg0 M ?_
  intro h1_ M1_ f1_
  refine Ex_bipush dX12_forget_5 rfl (by decide) ?_
  refine Ex_istore_n (L2 := [_, _, _]) dX12_forget_7 rfl rfl rfl ?_
  refine Ex_bipush dX12_forget_8 rfl (by decide) ?_
  refine Ex_istore_n (L2 := [_, _, _]) dX12_forget_10 rfl rfl rfl ?_
  refine Ex_post (x12_forget_l hn6 hg hK hB 10 (-4) _ (Nat.le_refl _) ⟨_, _, _, M1_, hn, h6, h23, hσ⟩) ?_
  rintro r1 h1 ⟨rfl, z1, z2⟩
  exact ⟨ri (by split <;> omega), z1, f1_.trans z2⟩
