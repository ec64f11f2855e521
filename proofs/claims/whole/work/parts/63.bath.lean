/-! bath (by program: wip/whole/spec_u.py) -/
def obAt (xs : List Int) (i : Int) (X : RS) : Option RS := ob (gx xs i) (gx xs (i + 1) - 48) (gx xs (i + 2) - 48) ((gx xs (i + 2) - 48) * 10 + gx xs (i + 2 + 1) - 48) ((gx xs (i + 3) - 48) * 10 + gx xs (i + 3 + 1) - 48) X
def baL (xs : List Int) (i told : Int) (X : RS) : Nat → Int × Option RS
  | 0 => (told, some X)
  | k + 1 => if i < (xs.length : Int) then (match obAt xs i X with
    | none => (-2000 - i, none)
    | some Y => baL xs (i + dB (gx xs i) + 2) (told + 1) Y k) else (told, some X)
def do_text (xs : List Int) (X : RS) : Int × RS :=
  if msh xs 0 (-1) xs.length = -1 then ((baL xs 0 0 X xs.length).1, (baL xs 0 0 X xs.length).2.getD X) else (-1000 - msh xs 0 (-1) xs.length, X)
def do_bath (hw rs : Nat → Int) (rx : Nat → List Int) (d : Int) (X : RS) : Int × RS :=
  if (0 ≤ d ∧ d ≤ 7) ∧ hw d.toNat = 2 then (if rs d.toNat = 0 then do_text (rx d.toNat) X else (-12, X)) else (why hw d, X)
theorem gx_nat {xs : List Int} {i : Nat} (h : i < xs.length) : gx xs (i : Int) = xs.getD i 0 := by unfold gx; rw [if_pos (by omega)]; rfl
theorem msh_dig {xs : List Int} : ∀ (due k i : Nat), i + k = xs.length → msh xs i (due : Int) k = -1 → due + 1 ≤ k ∧ (∀ j, j < due → 48 ≤ gx xs ((i + j : Nat) : Int) ∧ gx xs ((i + j : Nat) : Int) ≤ 57) ∧ msh xs (i + due + 1) (-1) (k - due - 1) = -1
  | due, 0, i, hk, hm => by
    simp only [msh] at hm
    rw [if_neg (by omega)] at hm
    omega
  | 0, k + 1, i, hk, hm => by
    simp only [msh] at hm
    rw [if_neg (by omega), if_neg (by omega)] at hm
    split at hm
    · exact ⟨by omega, fun j hj => absurd hj (by omega), by simpa using hm⟩
    · omega
  | due + 1, k + 1, i, hk, hm => by
    simp only [msh] at hm
    rw [if_neg (by omega), if_pos (by omega)] at hm
    split at hm
    · rename_i hd
      have ih := msh_dig (xs := xs) due k (i + 1) (by omega) (by rw [show ((due + 1 : Nat) : Int) - 1 = (due : Int) by omega] at hm; exact hm)
      refine ⟨by omega, fun j hj => ?_, ?_⟩
      · by_cases e : j = 0
        · subst e
          rw [Nat.add_zero, gx_nat (by omega)]
          exact hd
        · have := ih.2.1 (j - 1) (by omega)
          rw [show i + 1 + (j - 1) = i + j by omega] at this
          exact this
      · have := ih.2.2
        rw [show i + 1 + due + 1 = i + (due + 1) + 1 by omega, show k - due - 1 = k + 1 - (due + 1) - 1 by omega] at this
        exact this
    · omega
theorem msh_st {xs : List Int} {i k : Nat} (hk : i + k = xs.length) (h0 : 0 < k) (hm : msh xs i (-1) k = -1) : 0 ≤ dB (gx xs (i : Int)) ∧ (∀ j : Int, 1 ≤ j → j ≤ dB (gx xs (i : Int)) → 48 ≤ gx xs ((i : Int) + j) ∧ gx xs ((i : Int) + j) ≤ 57) ∧ i + (dB (gx xs (i : Int))).toNat + 2 ≤ xs.length ∧ msh xs (i + (dB (gx xs (i : Int))).toNat + 2) (-1) (k - (dB (gx xs (i : Int))).toNat - 2) = -1 := by
  obtain ⟨k, rfl⟩ : ∃ q, k = q + 1 := ⟨k - 1, by omega⟩
  simp only [msh, if_true] at hm
  rw [← gx_nat (by omega)] at hm
  have hr := dB_r (gx xs (i : Int))
  split at hm
  · omega
  · rename_i hd
    obtain ⟨D, hD⟩ := Int.eq_ofNat_of_zero_le (show 0 ≤ dB (gx xs (i : Int)) by omega)
    rw [hD] at hm ⊢
    obtain ⟨a, b, c⟩ := msh_dig (xs := xs) D k (i + 1) (by omega) hm
    have e1 : ((D : Nat) : Int).toNat = D := rfl
    rw [e1]
    refine ⟨by omega, fun j h1 h2 => ?_, by omega, ?_⟩
    · have := b (j.toNat - 1) (by omega)
      rw [show ((i + 1 + (j.toNat - 1) : Nat) : Int) = (i : Int) + j by omega] at this
      exact this
    · rw [show i + D + 2 = i + 1 + D + 1 by omega, show k + 1 - D - 2 = k - D - 1 by omega]
      exact c
theorem ob_m {z a b t2 t3 : Int} {X Y : RS} (h : ob z a b t2 t3 X = some Y) (hm : 0 ≤ X.2.1 ∧ X.2.1 ≤ 999) : 0 ≤ Y.2.1 ∧ Y.2.1 ≤ 999 := by
  obtain ⟨n, m, K, F, T, S, C⟩ := X
  unfold ob at h
  repeat' split at h
  all_goals first
    | (cases h; done)
    | (injection h with h; rw [← h]; exact hm)
    | (injection h with h; rename_i hq; have := hq.2; rw [← h]; show 0 ≤ m + 1 ∧ m + 1 ≤ 999; have h1 : 0 ≤ m ∧ m ≤ 999 := hm; have h2 : m < 999 := this; omega)
def GX (h h1 : Hp) (x c s : Nat) : Prop := (h.2.1 ≤ h1.2.1 ∧ h1.2.1 ≤ h.2.1 + c ∧ h.2.2 ≤ h1.2.2 ∧ h1.2.2 ≤ h.2.2 + s) ∧ WF h1 ∧ ∀ q v, ¬ (x + 10 ≤ q ∧ q < x + 19) → ¬ (x + 28 ≤ q ∧ q < x + 37) → h.1 q = some v → h1.1 q = some v
theorem GX.trans {h h1 h2 : Hp} {x c s c2 s2 : Nat} (a : GX h h1 x c s) (b : GX h1 h2 x c2 s2) : GX h h2 x (c + c2) (s + s2) := ⟨by have := a.1; have := b.1; omega, b.2.1, fun q v h1 h2 e => b.2.2 q v h1 h2 (a.2.2 q v h1 h2 e)⟩
theorem Gr.gx {h h1 : Hp} {x lo hi c s c2 s2 : Nat} (g : Gr h h1 lo hi c s) (hq : ∀ q, lo ≤ q → q < hi → (x + 10 ≤ q ∧ q < x + 19) ∨ (x + 28 ≤ q ∧ q < x + 37)) (hc : c ≤ c2) (hs : s ≤ s2) : GX h h1 x c2 s2 := ⟨by have := g.1; omega, g.2.1, fun q v h1 h2 e => g.2.2 q v (by
  by_cases z : lo ≤ q ∧ q < hi
  · rcases hq q z.1 z.2 with z | z
    · exact absurd z h1
    · exact absurd z h2
  · omega) e⟩
theorem RailAny.gr {h h1 : Hp} {r lo hi c s : Nat} (R : RailAny h r) (g : Gr h h1 lo hi c s) (ha : r + 9 ≤ lo ∨ hi ≤ r) : RailAny h1 r := by
  obtain ⟨n, m, tu, kr, T, S, C, R⟩ := R
  exact (g.rail R ha).any
theorem PupAny.gr {h h1 : Hp} {a lo hi c s : Nat} (R : PupAny h a) (g : Gr h h1 lo hi c s) (ha : a < lo ∨ hi ≤ a) : PupAny h1 a := by
  obtain ⟨k, t, s, c, z⟩ := R
  exact ⟨k, t, s, c, g.2.2 _ _ (by omega) z⟩
theorem Scr.gr0 {h h1 : Hp} {x c s : Nat} {hi : Int} (Z : Scr h x hi) (g : Gr h h1 (x + 28) (x + 37) c s) (r : RailAny h1 (x + 28)) : Scr h1 x hi := by
  obtain ⟨⟨bs, z0⟩, z1, ⟨f2, z2⟩, ⟨f3, z3⟩, ⟨f4, z4⟩, ⟨f5, z5⟩, a, b, c, p, q⟩ := Z
  exact ⟨⟨bs, g.2.2 _ _ (by omega) z0⟩, g.2.2 _ _ (by omega) z1, ⟨f2, g.2.2 _ _ (by omega) z2⟩, ⟨f3, g.2.2 _ _ (by omega) z3⟩, ⟨f4, g.2.2 _ _ (by omega) z4⟩, ⟨f5, g.2.2 _ _ (by omega) z5⟩, r, b.gr g (by omega), c.gr g (by omega), p.gr g (by omega), q.gr g (by omega)⟩
theorem RK.any {h : Hp} {r y : Nat} {tu : Int} {kr : Nat → Nat} {X : RS} (k : RK h r y tu kr X) : RailAny h r := by
  obtain ⟨n, m, K, F, T, S, C⟩ := X
  exact k.1.any
/-- bath's end -/
def Bp (h h1 : Hp) (x y : Nat) (hi : Int) (c s : Nat) (r1 : Option Value) (z : Int × Option RS) : Prop := r1 = some (.int (i32 z.1)) ∧ Scr h1 x hi ∧ match z.2 with
  | none => Gr h h1 (x + 28) (x + 37) c s
  | some Y => Now h1 x y Y ∧ GX h h1 x c s
theorem Bp.trans {h h1 h2 : Hp} {x y c s c2 s2 : Nat} {hi : Int} {r1 : Option Value} {z : Int × Option RS} (g : Gr h h1 (x + 28) (x + 37) c s) (b : Bp h1 h2 x y hi c2 s2 r1 z) : Bp h h2 x y hi (c + c2) (s + s2) r1 z := by
  obtain ⟨a, Zs, m⟩ := b
  refine ⟨a, Zs, ?_⟩
  cases hz : z.2 with
  | none => rw [hz] at m; exact g.trans m
  | some Y => rw [hz] at m; exact ⟨m.1, (g.gx (x := x) (fun q _ _ => by omega) (Nat.le_refl _) (Nat.le_refl _)).trans m.2⟩
theorem Bp.wide {h h1 : Hp} {x y c s c2 s2 : Nat} {hi : Int} {r1 : Option Value} {z : Int × Option RS} (b : Bp h h1 x y hi c s r1 z) (hc : c ≤ c2) (hs : s ≤ s2) : Bp h h1 x y hi c2 s2 r1 z := by
  obtain ⟨a, Zs, m⟩ := b
  refine ⟨a, Zs, ?_⟩
  cases hz : z.2 with
  | none => rw [hz] at m; exact m.wide (Nat.le_refl _) (Nat.le_refl _) hc hs
  | some Y => rw [hz] at m; exact ⟨m.1, ⟨by have := m.2.1; omega, m.2.2.1, m.2.2.2⟩⟩
theorem msh_r {xs : List Int} (hl : xs.length ≤ 100) : ∀ (k i : Nat) (due : Int), i + k ≤ xs.length → -1 ≤ msh xs i due k ∧ msh xs i due k ≤ 1000
  | 0, i, due, h => by simp only [msh]; split <;> omega
  | k + 1, i, due, h => by
    simp only [msh]
    repeat' split
    all_goals first
      | omega
      | exact msh_r hl k (i + 1) _ (by omega)
theorem x11_bath_l {E : am_E} {d : Nat} {x y a : Nat} {hi d0 v3 : Int} {xs : List Int}  (hB : E.2 ≤ x) (hy : x + 57 ≤ y) (hya : y ≤ a)  : ∀ (k : Nat) (i : Nat) (told tu : Int) (X : RS) (kr : Nat → Nat) (h : Hp), xs.length ≤ i + k → i ≤ xs.length → msh xs i (-1) (xs.length - i) = -1 → 0 ≤ X.2.1 ∧ X.2.1 ≤ 999 → RK h (x + 28) y tu kr X → WF h → y ≤ h.2.1 → RowAt h a 0 xs → Scr h x hi → RailAny h (x + 10) → Ex E (d + 7) mX11_bath 54 [.ref x, .int (i32 d0), .ref a, .int (i32 v3), .ref (x + 28), .int (i32 told), .int (i32 (i : Int))] [] h (fun r1 h1 => Bp h h1 x y hi (2 * k) (16 * k) r1 (baL xs (i : Int) told X k)) := by
  intro k
  induction k with
  | zero =>
    intro i told tu X kr h hk hil hm hX RKx w hyh W Z N9
    obtain ⟨⟨bs, z0⟩, z1, -⟩ := id Z
    obtain ⟨w1, w2, w3, w4, w5⟩ := id W
    obtain ⟨n, m, K, F, T, S, C⟩ := X
    obtain ⟨R9, hg9, ky9⟩ := id RKx
    obtain ⟨n7, m7, tu7, kr7, T7, S7, C7, R7⟩ := id N9
    
    · refine Ex_iload dX11_bath_54 rfl rfl ?_
      refine Ex_aload_n dX11_bath_56 rfl rfl ?_
      refine Ex_inv 2 dX11_bath_57 rfl rfl (Or.inl rfl) rfl rfl rfl rfl w1 rfl rfl rfl (Ex_post (x8_size W) ?_)
      rintro _ _ ⟨rfl, e0⟩
      obtain rfl := Eq.symm e0
      refine Ex_icmp_ge (t := 103) dX11_bath_60 rfl rfl (by omega) (fun c60 => ?_) (fun c60 => absurd c60 (by omega))
      refine Ex_aload_n dX11_bath_103 rfl rfl ?_
      refine Ex_getf dX11_bath_104 rfl z0 rfl rfl rfl ?_
      refine Ex_aload dX11_bath_107 rfl rfl ?_
      refine Ex_inv 2 dX11_bath_109 rfl rfl (Or.inl rfl) rfl rfl rfl rfl R7.1 rfl rfl rfl (Ex_post (x7_setTo R7 R9 (by omega) (by omega)) ?_)
      rintro _ h9 ⟨rfl, R9b, f9⟩
      refine Ex_iload dX11_bath_112 rfl rfl ?_
      refine Ex_iret dX11_bath_114 rfl rfl ?_
      have g9 := f9.gr w (by omega) 0 0
      exact ⟨rfl, Z.eq (fun q hq => f9.2 q (by omega)), ⟨kr, 0, R9b, hg9, ky9.fr f9 (by omega)⟩, g9.gx (fun q _ _ => by omega) (Nat.zero_le _) (Nat.zero_le _)⟩
  | succ k ih =>
    intro i told tu X kr h hk hil hm hX RKx w hyh W Z N9
    obtain ⟨⟨bs, z0⟩, z1, -⟩ := id Z
    obtain ⟨w1, w2, w3, w4, w5⟩ := id W
    obtain ⟨n, m, K, F, T, S, C⟩ := X
    obtain ⟨R9, hg9, ky9⟩ := id RKx
    obtain ⟨n7, m7, tu7, kr7, T7, S7, C7, R7⟩ := id N9
    have eb : baL xs (i : Int) told (n, m, K, F, T, S, C) (k + 1) = if (i : Int) < (xs.length : Int) then (match obAt xs (i : Int) (n, m, K, F, T, S, C) with
      | none => (-2000 - (i : Int), none)
      | some Y => baL xs ((i : Int) + dB (gx xs (i : Int)) + 2) (told + 1) Y k) else (told, some (n, m, K, F, T, S, C)) := rfl
    rw [eb]
    by_cases q : (i : Int) < (xs.length : Int)
    rotate_left
    · rw [if_neg q]
      refine Ex_iload dX11_bath_54 rfl rfl ?_
      refine Ex_aload_n dX11_bath_56 rfl rfl ?_
      refine Ex_inv 2 dX11_bath_57 rfl rfl (Or.inl rfl) rfl rfl rfl rfl w1 rfl rfl rfl (Ex_post (x8_size W) ?_)
      rintro _ _ ⟨rfl, e0⟩
      obtain rfl := Eq.symm e0
      refine Ex_icmp_ge (t := 103) dX11_bath_60 rfl rfl (by omega) (fun c60 => ?_) (fun c60 => absurd c60 (by omega))
      refine Ex_aload_n dX11_bath_103 rfl rfl ?_
      refine Ex_getf dX11_bath_104 rfl z0 rfl rfl rfl ?_
      refine Ex_aload dX11_bath_107 rfl rfl ?_
      refine Ex_inv 2 dX11_bath_109 rfl rfl (Or.inl rfl) rfl rfl rfl rfl R7.1 rfl rfl rfl (Ex_post (x7_setTo R7 R9 (by omega) (by omega)) ?_)
      rintro _ h9 ⟨rfl, R9b, f9⟩
      refine Ex_iload dX11_bath_112 rfl rfl ?_
      refine Ex_iret dX11_bath_114 rfl rfl ?_
      have g9 := f9.gr w (by omega) 0 0
      exact ⟨rfl, Z.eq (fun q hq => f9.2 q (by omega)), ⟨kr, 0, R9b, hg9, ky9.fr f9 (by omega)⟩, g9.gx (fun q _ _ => by omega) (Nat.zero_le _) (Nat.zero_le _)⟩
    · rw [if_pos q]
      obtain ⟨d1, d2, d3, d4⟩ := msh_st (k := xs.length - i) (by omega) (by omega) hm
      have hX2 : 0 ≤ m ∧ m ≤ 999 := hX
      have hgi := gx_r w5 (i : Int)
      cases hob : obAt xs (i : Int) (n, m, K, F, T, S, C) with
      | none =>
        dsimp only
        refine Ex_iload dX11_bath_54 rfl rfl ?_
        refine Ex_aload_n dX11_bath_56 rfl rfl ?_
        refine Ex_inv 2 dX11_bath_57 rfl rfl (Or.inl rfl) rfl rfl rfl rfl w1 rfl rfl rfl (Ex_post (x8_size W) ?_)
        rintro _ _ ⟨rfl, e0⟩
        obtain rfl := Eq.symm e0
        refine Ex_icmp_ge (t := 103) dX11_bath_60 rfl rfl (by omega) (fun c60 => absurd c60 (by omega)) (fun c60 => ?_)
        refine Ex_aload dX11_bath_63 rfl rfl ?_
        refine Ex_aload_n dX11_bath_65 rfl rfl ?_
        refine Ex_iload dX11_bath_66 rfl rfl ?_
        refine Ex_inv 2 dX11_bath_68 rfl rfl (Or.inl rfl) rfl rfl rfl rfl R9.1 rfl rfl rfl (Ex_post (x7_obeys R9 hg9 ky9 w (by omega) (by omega) hyh W (by omega) d1 d2 (by omega)) ?_)
        intro r8 h8 zz
        have zz : Obd h h8 (x + 28) y tu r8 (obAt xs (i : Int) (n, m, K, F, T, S, C)) := zz
        rw [hob] at zz
        obtain ⟨rfl, e0⟩ := zz
        obtain rfl := Eq.symm e0
        refine Ex_if_ne (t := 81) dX11_bath_71 rfl rfl (by omega) (fun c71 => absurd c71 (by omega)) (fun c71 => ?_)
        refine Ex_sipush dX11_bath_74 rfl (by decide) ?_
        refine Ex_iload dX11_bath_77 rfl rfl ?_
        refine Ex_isub dX11_bath_79 rfl ?_
        refine Ex_iret dX11_bath_80 rfl rfl ?_
        exact ⟨rfl, Z, Gr.rf w _ _ _ _⟩
      | some Y =>
        dsimp only
        refine Ex_iload dX11_bath_54 rfl rfl ?_
        refine Ex_aload_n dX11_bath_56 rfl rfl ?_
        refine Ex_inv 2 dX11_bath_57 rfl rfl (Or.inl rfl) rfl rfl rfl rfl w1 rfl rfl rfl (Ex_post (x8_size W) ?_)
        rintro _ _ ⟨rfl, e0⟩
        obtain rfl := Eq.symm e0
        refine Ex_icmp_ge (t := 103) dX11_bath_60 rfl rfl (by omega) (fun c60 => absurd c60 (by omega)) (fun c60 => ?_)
        refine Ex_aload dX11_bath_63 rfl rfl ?_
        refine Ex_aload_n dX11_bath_65 rfl rfl ?_
        refine Ex_iload dX11_bath_66 rfl rfl ?_
        refine Ex_inv 2 dX11_bath_68 rfl rfl (Or.inl rfl) rfl rfl rfl rfl R9.1 rfl rfl rfl (Ex_post (x7_obeys R9 hg9 ky9 w (by omega) (by omega) hyh W (by omega) d1 d2 (by omega)) ?_)
        intro r8 h8 zz
        have zz : Obd h h8 (x + 28) y tu r8 (obAt xs (i : Int) (n, m, K, F, T, S, C)) := zz
        rw [hob] at zz
        obtain ⟨rfl, ⟨kr8, RK8⟩, g8⟩ := zz
        have W8 := g8.row W (by omega)
        refine Ex_if_ne (t := 81) dX11_bath_71 rfl rfl (by omega) (fun c71 => ?_) (fun c71 => absurd c71 (by omega))
        refine Ex_iinc (L2 := [_, _, _, _, _, _, _]) dX11_bath_81 rfl rfl rfl ?_
        refine Ex_iload dX11_bath_84 rfl rfl ?_
        refine Ex_aload_n dX11_bath_86 rfl rfl ?_
        refine Ex_iload dX11_bath_87 rfl rfl ?_
        refine Ex_inv 2 dX11_bath_89 rfl rfl (Or.inl rfl) rfl rfl rfl rfl W8.1 rfl rfl rfl (Ex_post (x8_at W8 (by omega)) ?_)
        rintro _ _ ⟨rfl, e8⟩
        obtain rfl := Eq.symm e8
        refine Ex_stat 0 dX11_bath_92 rfl rfl (Or.inl rfl) rfl rfl rfl rfl rfl rfl (Ex_post (x8_digitsBehind hgi) ?_)
        rintro _ _ ⟨rfl, e7⟩
        obtain rfl := Eq.symm e7
        refine Ex_iconst dX11_bath_95 rfl ?_
        refine Ex_iadd dX11_bath_96 rfl ?_
        refine Ex_iadd dX11_bath_97 rfl ?_
        refine Ex_istore (L2 := [_, _, _, _, _, _, _]) dX11_bath_98 rfl rfl rfl ?_
        refine Ex_goto (t := 54) dX11_bath_100 rfl ?_
        have ei : (i : Int) + (dB (gx xs (i : Int)) + 2) = ((i + (dB (gx xs (i : Int))).toNat + 2 : Nat) : Int) := by omega
        have ei2 : (i : Int) + dB (gx xs (i : Int)) + 2 = ((i + (dB (gx xs (i : Int))).toNat + 2 : Nat) : Int) := by omega
        rw [ei, ei2]
        refine Ex_post (ih _ (told + 1) tu Y kr8 h8 (by omega) (by omega) (by rw [show xs.length - (i + (dB (gx xs (i : Int))).toNat + 2) = xs.length - i - (dB (gx xs (i : Int))).toNat - 2 by omega]; exact d4) (ob_m hob hX) RK8 g8.2.1 (by have := g8.1; omega) W8 (Z.gr0 g8 RK8.any) (N9.gr g8 (by omega))) ?_
        intro r1 h1 z
        exact (Bp.trans g8 z).wide (by omega) (by omega)
theorem x11_bath {E : am_E} {d : Nat} {h : Hp} {x y n : Nat} {hi m tu : Int} {kr : Nat → Nat} {K F T S C : Nat → Int} {hw ck cf rs : Nat → Int} {rx : Nat → List Int} {sa : Nat → Nat} {a : Int}  (Z : Scr h x hi) (R : RailAt h (x + 10) n m tu kr T S C) (hg : Rng n T S C) (ky : KY h y n kr K F) (hB : E.2 ≤ x) (hy : x + 57 ≤ y) (V : Shv h x y hw ck cf rs rx sa) (w : WF h) (hyh : y ≤ h.2.1) (hm9 : 0 ≤ m ∧ m ≤ 999) (ha : (-2147483648 ≤ a ∧ a ≤ 2147483647))  : Ex E (d + 7) mX11_bath 0 [.ref x, .int (i32 a), .retAddr 0, .retAddr 0, .retAddr 0, .retAddr 0, .retAddr 0] [] h (fun r1 h1 => r1 = some (.int (i32 (do_bath hw rs rx a (n, m, K, F, T, S, C)).1)) ∧ Scr h1 x hi ∧ Now h1 x y (do_bath hw rs rx a (n, m, K, F, T, S, C)).2 ∧ GX h h1 x 200 1600) := by
  obtain ⟨⟨bs, z0⟩, z1, ⟨f2, z2⟩, ⟨f3, z3⟩, ⟨f4, z4⟩, ⟨f5, z5⟩, zr0, zr1, zr2, ⟨k5, t5, s5, c5, z55⟩, ⟨k6, t6, s6, c6, z56⟩⟩ := id Z
  obtain ⟨hr, hA, hP, hG, hn6⟩ := id R
  have kk := ky.ok (r := x + 10) (by omega)
  by_cases q : (0 ≤ a ∧ a ≤ 7) ∧ hw a.toNat = 2
  · obtain ⟨W, hya⟩ := V.row q
    obtain ⟨w1, w2, w3, w4, w5⟩ := id W
    by_cases q2 : rs a.toNat = 0
    · rw [q2] at W
      by_cases q3 : msh (rx a.toNat) 0 (-1) (rx a.toNat).length = -1
      · have ea : do_bath hw rs rx a (n, m, K, F, T, S, C) = ((baL (rx a.toNat) 0 0 (n, m, K, F, T, S, C) (rx a.toNat).length).1, (baL (rx a.toNat) 0 0 (n, m, K, F, T, S, C) (rx a.toNat).length).2.getD (n, m, K, F, T, S, C)) := by unfold do_bath; rw [if_pos q, if_pos q2]; unfold do_text; exact if_pos q3
        rw [ea]
        refine Ex_aload_n dX11_bath_0 rfl rfl ?_
        refine Ex_iload_n dX11_bath_1 rfl rfl ?_
        refine Ex_inv 2 dX11_bath_2 rfl rfl (Or.inl rfl) rfl rfl rfl rfl z0 rfl rfl rfl (Ex_post (x11_rowOn Z V (by omega)) ?_)
        rintro _ _ ⟨rfl, e0⟩
        obtain rfl := Eq.symm e0
        rw [row_some q]
        refine Ex_astore_n (L2 := [_, _, _, _, _, _, _]) dX11_bath_5 rfl rfl rfl ?_
        refine Ex_aload_n dX11_bath_6 rfl rfl ?_
        refine Ex_ifnonnull (t := 16) dX11_bath_7 rfl rfl ?_
        refine Ex_aload_n dX11_bath_16 rfl rfl ?_
        refine Ex_getf dX11_bath_17 rfl (by first | exact z0 | exact w1) rfl rfl rfl ?_
        refine Ex_if_eq (t := 26) dX11_bath_20 rfl rfl (by omega) (fun c20 => ?_) (fun c20 => absurd c20 (by omega))
        refine Ex_aload_n dX11_bath_26 rfl rfl ?_
        refine Ex_inv 2 dX11_bath_27 rfl rfl (Or.inl rfl) rfl rfl rfl rfl w1 rfl rfl rfl (Ex_post (x8_misshapenAt W) ?_)
        rintro _ _ ⟨rfl, e0⟩
        obtain rfl := Eq.symm e0
        refine Ex_istore_n (L2 := [_, _, _, _, _, _, _]) dX11_bath_30 rfl rfl rfl ?_
        refine Ex_iload_n dX11_bath_31 rfl rfl ?_
        refine Ex_iconst dX11_bath_32 rfl ?_
        refine Ex_icmp_eq (t := 42) dX11_bath_33 rfl rfl (by omega) (fun c33 => ?_) (fun c33 => absurd c33 (by omega))
        refine Ex_aload_n dX11_bath_42 rfl rfl ?_
        refine Ex_inv 2 dX11_bath_43 rfl rfl (Or.inl rfl) rfl rfl rfl rfl z0 rfl rfl rfl (Ex_post (x11_fromNow Z R hg ky hB hy) ?_)
        rintro _ h9 ⟨rfl, R9, f9⟩
        refine Ex_astore (L2 := [_, _, _, _, _, _, _]) dX11_bath_46 rfl rfl rfl ?_
        refine Ex_iconst dX11_bath_48 rfl ?_
        refine Ex_istore (L2 := [_, _, _, _, _, _, _]) dX11_bath_49 rfl rfl rfl ?_
        refine Ex_iconst dX11_bath_51 rfl ?_
        refine Ex_istore (L2 := [_, _, _, _, _, _, _]) dX11_bath_52 rfl rfl rfl ?_
        have g9 := f9.gr w (by omega) 0 0
        refine Ex_post (x11_bath_l hB hy hya (rx a.toNat).length 0 0 0 (n, m, K, F, T, S, C) kr h9 (by omega) (Nat.zero_le _) q3 hm9 ⟨R9, hg, ky.fr f9 (by omega)⟩ g9.2.1 (by rw [f9.1]; exact hyh) (W.frS f9.s0 (by omega)) (Z.t0 f9 R9.any) (R.fr f9 (by omega)).any) ?_
        intro r1 h1 z
        have z2 := (Bp.trans g9 z).wide (c2 := 200) (s2 := 1600) (by omega) (by omega)
        have z2 : Bp h h1 x y hi 200 1600 r1 (baL (rx a.toNat) 0 0 (n, m, K, F, T, S, C) (rx a.toNat).length) := z2
        obtain ⟨a1, a2, a3⟩ := z2
        refine ⟨a1, a2, ?_⟩
        cases hz : (baL (rx a.toNat) 0 0 (n, m, K, F, T, S, C) (rx a.toNat).length).2 with
        | none =>
          rw [hz] at a3
          exact ⟨⟨kr, tu, a3.rail R (by omega), hg, ky.gr a3 (by omega)⟩, a3.gx (fun q _ _ => by omega) (by omega) (by omega)⟩
        | some Y =>
          rw [hz] at a3
          exact a3
      · have ea : do_bath hw rs rx a (n, m, K, F, T, S, C) = (-1000 - msh (rx a.toNat) 0 (-1) (rx a.toNat).length, (n, m, K, F, T, S, C)) := by unfold do_bath; rw [if_pos q, if_pos q2]; unfold do_text; exact if_neg q3
        rw [ea]
        have hms : -1 ≤ msh (rx a.toNat) 0 (-1) (rx a.toNat).length ∧ msh (rx a.toNat) 0 (-1) (rx a.toNat).length ≤ 1000 := msh_r w4 _ 0 _ (by omega)
        refine Ex_aload_n dX11_bath_0 rfl rfl ?_
        refine Ex_iload_n dX11_bath_1 rfl rfl ?_
        refine Ex_inv 2 dX11_bath_2 rfl rfl (Or.inl rfl) rfl rfl rfl rfl z0 rfl rfl rfl (Ex_post (x11_rowOn Z V (by omega)) ?_)
        rintro _ _ ⟨rfl, e0⟩
        obtain rfl := Eq.symm e0
        rw [row_some q]
        refine Ex_astore_n (L2 := [_, _, _, _, _, _, _]) dX11_bath_5 rfl rfl rfl ?_
        refine Ex_aload_n dX11_bath_6 rfl rfl ?_
        refine Ex_ifnonnull (t := 16) dX11_bath_7 rfl rfl ?_
        refine Ex_aload_n dX11_bath_16 rfl rfl ?_
        refine Ex_getf dX11_bath_17 rfl (by first | exact z0 | exact w1) rfl rfl rfl ?_
        refine Ex_if_eq (t := 26) dX11_bath_20 rfl rfl (by omega) (fun c20 => ?_) (fun c20 => absurd c20 (by omega))
        refine Ex_aload_n dX11_bath_26 rfl rfl ?_
        refine Ex_inv 2 dX11_bath_27 rfl rfl (Or.inl rfl) rfl rfl rfl rfl w1 rfl rfl rfl (Ex_post (x8_misshapenAt W) ?_)
        rintro _ _ ⟨rfl, e0⟩
        obtain rfl := Eq.symm e0
        refine Ex_istore_n (L2 := [_, _, _, _, _, _, _]) dX11_bath_30 rfl rfl rfl ?_
        refine Ex_iload_n dX11_bath_31 rfl rfl ?_
        refine Ex_iconst dX11_bath_32 rfl ?_
        refine Ex_icmp_eq (t := 42) dX11_bath_33 rfl rfl (by omega) (fun c33 => absurd c33 (by omega)) (fun c33 => ?_)
        refine Ex_sipush dX11_bath_36 rfl (by decide) ?_
        refine Ex_iload_n dX11_bath_39 rfl rfl ?_
        refine Ex_isub dX11_bath_40 rfl ?_
        refine Ex_iret dX11_bath_41 rfl rfl ?_
        exact ⟨rfl, Z, ⟨kr, tu, R, hg, ky⟩, (Gr.rf w (x + 10) (x + 10) 0 0).gx (fun q _ _ => by omega) (by omega) (by omega)⟩
    · have ea : do_bath hw rs rx a (n, m, K, F, T, S, C) = (-12, (n, m, K, F, T, S, C)) := by unfold do_bath; rw [if_pos q]; exact if_neg q2
      rw [ea]
      refine Ex_aload_n dX11_bath_0 rfl rfl ?_
      refine Ex_iload_n dX11_bath_1 rfl rfl ?_
      refine Ex_inv 2 dX11_bath_2 rfl rfl (Or.inl rfl) rfl rfl rfl rfl z0 rfl rfl rfl (Ex_post (x11_rowOn Z V (by omega)) ?_)
      rintro _ _ ⟨rfl, e0⟩
      obtain rfl := Eq.symm e0
      rw [row_some q]
      refine Ex_astore_n (L2 := [_, _, _, _, _, _, _]) dX11_bath_5 rfl rfl rfl ?_
      refine Ex_aload_n dX11_bath_6 rfl rfl ?_
      refine Ex_ifnonnull (t := 16) dX11_bath_7 rfl rfl ?_
      refine Ex_aload_n dX11_bath_16 rfl rfl ?_
      refine Ex_getf dX11_bath_17 rfl (by first | exact z0 | exact w1) rfl rfl rfl ?_
      refine Ex_if_eq (t := 26) dX11_bath_20 rfl rfl (by omega) (fun c20 => absurd c20 (by omega)) (fun c20 => ?_)
      refine Ex_bipush dX11_bath_23 rfl (by decide) ?_
      refine Ex_iret dX11_bath_25 rfl rfl ?_
      exact ⟨rfl, Z, ⟨kr, tu, R, hg, ky⟩, (Gr.rf w (x + 10) (x + 10) 0 0).gx (fun q _ _ => by omega) (by omega) (by omega)⟩
  · have ea : do_bath hw rs rx a (n, m, K, F, T, S, C) = (why hw a, (n, m, K, F, T, S, C)) := by unfold do_bath; exact if_neg q
    rw [ea]
    refine Ex_aload_n dX11_bath_0 rfl rfl ?_
    refine Ex_iload_n dX11_bath_1 rfl rfl ?_
    refine Ex_inv 2 dX11_bath_2 rfl rfl (Or.inl rfl) rfl rfl rfl rfl z0 rfl rfl rfl (Ex_post (x11_rowOn Z V (by omega)) ?_)
    rintro _ _ ⟨rfl, e0⟩
    obtain rfl := Eq.symm e0
    rw [row_none q]
    refine Ex_astore_nN (L2 := [_, _, _, _, _, _, _]) dX11_bath_5 rfl rfl rfl ?_
    refine Ex_aload_nN dX11_bath_6 rfl rfl ?_
    refine Ex_ifnonnullN (t := 16) dX11_bath_7 rfl rfl ?_
    refine Ex_aload_n dX11_bath_10 rfl rfl ?_
    refine Ex_iload_n dX11_bath_11 rfl rfl ?_
    refine Ex_inv 2 dX11_bath_12 rfl rfl (Or.inl rfl) rfl rfl rfl rfl z0 rfl rfl rfl (Ex_post (x11_whyNot Z V (by omega)) ?_)
    rintro _ _ ⟨rfl, e0⟩
    obtain rfl := Eq.symm e0
    refine Ex_iret dX11_bath_15 rfl rfl ?_
    exact ⟨rfl, Z, ⟨kr, tu, R, hg, ky⟩, (Gr.rf w (x + 10) (x + 10) 0 0).gx (fun q _ _ => by omega) (by omega) (by omega)⟩
