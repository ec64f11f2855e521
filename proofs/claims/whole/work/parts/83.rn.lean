/-! the reference: toss, frights (by program: wip/whole/spec_rn.py) -/
/-- what one TOSS of a KIND says -/
def tss (k f : Int) : Int := if k = 2 ∨ k = 3 ∨ k = 6 ∨ f = 0 then -15 else if k = 0 then f else if k = 7 then 200 + sp_price k f else 100 + f
def an_toss (hw ck cf : Nat → Int) (d : Int) : Int := if (0 ≤ d ∧ d ≤ 7) ∧ hw d.toNat = 1 then tss (ck d.toNat) (cf d.toNat) else why hw d
theorem shl_bit9 : ∀ c : Nat, c < 9 → i32 1 <<< (i32 (c : Int) &&& 31) = i32 ((2 : Int) ^ c) := by decide +kernel
/-- one outcome: its weight where the goal is met -/
def ct (k f goal : Int) (t : Int) : Nat → Nat → Int → Int → Int
  | 0, _, _, st => if goal ≤ st then 1 else 0
  | l + 1, b, tr, st => (if b % 2 = 1 then 1 else t - 1) * (if 7 ≤ st then ct k f goal t l (b / 2) tr st else if tr < sp_needs k f st then ct k f goal t l (b / 2) (max 0 (tr - sp_fright k f)) st else if b % 2 = 1 then ct k f goal t l (b / 2) (max 0 (tr - sp_fright k f)) st else ct k f goal t l (b / 2) tr (st + 1))
theorem sm_two {f : Nat → Int} : ∀ (k c : Nat), sm f (2 * c) (2 * k) = sm (fun b => f (2 * b)) c k + sm (fun b => f (2 * b + 1)) c k
  | 0, c => rfl
  | k + 1, c => by
    have ih := sm_two (f := f) k (c + 1)
    rw [show 2 * (k + 1) = 2 * k + 1 + 1 by omega]
    simp only [sm]
    rw [show 2 * c + 1 + 1 = 2 * (c + 1) by omega, ih]
    omega
theorem sm_mul {f : Nat → Int} {a : Int} : ∀ (k c : Nat), sm (fun b => a * f b) c k = a * sm f c k
  | 0, c => by simp [sm]
  | k + 1, c => by
    have ih := sm_mul (f := f) (a := a) k (c + 1)
    simp only [sm]
    rw [ih, Int.mul_add]
theorem ct_sum {k f goal : Int} {t : Nat} (ht : 1 ≤ t) : ∀ (l : Nat) (tr st : Int), sm (fun b => ct k f goal (t : Int) l b tr st) 0 (2 ^ l) = (oc k f goal t tr st l : Int)
  | 0, tr, st => by
    simp only [sm, ct, oc]
    show (if goal ≤ st then (1 : Int) else 0) + 0 = _
    split <;> rfl
  | l + 1, tr, st => by
    rw [show 2 ^ (l + 1) = 2 * 2 ^ l by rw [Nat.pow_succ, Nat.mul_comm], show (0 : Nat) = 2 * 0 from rfl, sm_two]
    have e0 : ∀ b : Nat, (2 * b) % 2 = 0 := fun b => by omega
    have e1 : ∀ b : Nat, (2 * b + 1) % 2 = 1 := fun b => by omega
    have d0 : ∀ b : Nat, (2 * b) / 2 = b := fun b => by omega
    have d1 : ∀ b : Nat, (2 * b + 1) / 2 = b := fun b => by omega
    have ht2 : ((t : Int) - 1) = ((t - 1 : Nat) : Int) := by omega
    simp only [ct, e0, e1, d0, d1, if_true, Int.one_mul, show ¬ ((0 : Nat) = 1) by decide, if_false, oc, sm_mul]
    by_cases q : 7 ≤ st
    · simp only [if_pos q, ct_sum ht l tr st]
      rw [Int.natCast_mul, Int.sub_mul]
      omega
    · by_cases q2 : tr < sp_needs k f st
      · simp only [if_neg q, if_pos q2, ct_sum ht l (max 0 (tr - sp_fright k f)) st]
        rw [Int.natCast_mul, Int.sub_mul]
        omega
      · simp only [if_neg q, if_neg q2, ct_sum ht l (max 0 (tr - sp_fright k f)) st, ct_sum ht l tr (st + 1)]
        rw [Int.natCast_add, Int.natCast_mul, ht2]
        omega
theorem x12_thrown {E : am_E} {d : Nat} {h : Hp} {m : Nat} {g K F T S C : Nat → Int} {ρ : Nat → Nat → Int} {kp : Value}  (M : MAt h m g K F T S C ρ kp)  : Ex E d mX12_thrown 0 [.ref m] [] h (fun r1 h1 => r1 = some (.int (i32 (g 13))) ∧ h1 = h) := by
  refine Ex_aload_n dX12_thrown_0 rfl rfl ?_
  refine Ex_getf dX12_thrown_1 rfl (ma0 M) rfl rfl rfl ?_
  refine Ex_iret dX12_thrown_4 rfl rfl ?_
  exact ⟨rfl, rfl⟩
theorem x12_toss {E : am_E} {d : Nat} {h : Hp} {m n : Nat} {mm hi : Int} {K F T S C : Nat → Int} {σ : Nat → Nat → Int} {hw ck cf rs : Nat → Int} {rx : Nat → List Int} {a : Int}  (I : MI h m (n, mm, K, F, T, S, C) hi σ) (hn6 : n ≤ 6) (hg : Rng n T S C) (hK : ∀ i, i < n → (0 ≤ K i ∧ K i ≤ 7) ∧ (0 ≤ F i ∧ F i ≤ 9)) (hB : E.2 ≤ m) (V : Sv σ hw ck cf rs rx) (ha : (-2147483648 ≤ a ∧ a ≤ 2147483647))  : Ex E (d + 2) mX12_toss 0 [.ref m, .int (i32 a), .retAddr 0, .retAddr 0] [] h (fun r1 h1 => r1 = some (.int (i32 (an_toss hw ck cf a))) ∧ (∃ σ2, MI h1 m (n, mm, K, F, T, S, C) hi σ2 ∧ Sv σ2 hw ck cf rs rx ∧ σ2 16 = σ 16) ∧ Fr h h1 m (m + 23)) := by
  obtain ⟨g, ρ, kp, M, hn, h6, h23, hσ⟩ := I
  have M : MAt h m g K F T S C ρ kp := M
  have hn : g 0 = (n : Int) := hn
  have h6 : g 6 = mm := h6
  have V : Sv ρ hw ck cf rs rx := V.cg hσ
  have h16 : ρ 16 = σ 16 := hσ 16 (Or.inr rfl)
  clear hσ
  have hσ : ∀ j, (6 ≤ j ∧ j ≤ 11) ∨ j = 16 → ρ j = ρ j := fun _ _ => rfl
  by_cases q : (0 ≤ a ∧ a ≤ 7) ∧ hw a.toNat = 1
  · have ea : an_toss hw ck cf a = tss (ck a.toNat) (cf a.toNat) := if_pos q
    rw [ea]
    obtain ⟨a, rfl⟩ := Int.eq_ofNat_of_zero_le q.1.1
    simp only [Int.toNat_natCast] at *
    obtain ⟨v6, v3, vk, vr⟩ := V a (by omega)
    obtain ⟨⟨k1, k2⟩, k3, k4⟩ := vk q.2
    have hpr : 0 ≤ sp_price (ck a) (cf a) ∧ sp_price (ck a) (cf a) ≤ 100 := by unfold sp_price; (repeat' split) <;> omega
    refine Ex_aload_n dX12_toss_0 rfl rfl ?_
    refine Ex_iconst dX12_toss_1 rfl ?_
    refine Ex_put12 (k0 := 13) (v := 0) dX12_toss_2 rfl (ma0 M) rfl rfl rfl rfl rfl (by omega) rfl ?_
    refine mg0 M ?_
    intro h1_ M1_ f1_
    refine Ex_aload_n dX12_toss_5 rfl rfl ?_
    refine Ex_iload_n dX12_toss_6 rfl rfl ?_
    refine Ex_inv 2 dX12_toss_7 rfl rfl (Or.inl rfl) rfl rfl rfl rfl (ma0 M1_) rfl rfl rfl (Ex_post (x12_wK M1_ V (by omega)) ?_)
    rintro _ _ ⟨rfl, e0⟩
    obtain rfl := Eq.symm e0
    rw [if_pos ⟨q.1, q.2⟩]
    refine Ex_if_ge (t := 19) dX12_toss_10 rfl rfl (by omega) (fun c10 => ?_) (fun c10 => absurd c10 (by omega))
    refine Ex_aload_n dX12_toss_19 rfl rfl ?_
    refine Ex_getf dX12_toss_20 rfl (ma0 M1_) rfl rfl rfl ?_
    refine Ex_iload_n dX12_toss_23 rfl rfl ?_
    refine Ex_iald12 (c := a) dX12_toss_24 rfl (ma7 M1_) (by omega) (by omega) ?_
    rw [k1]
    refine Ex_istore_n (L2 := [_, _, _, _]) dX12_toss_25 rfl rfl rfl ?_
    refine Ex_aload_n dX12_toss_26 rfl rfl ?_
    refine Ex_getf dX12_toss_27 rfl (ma0 M1_) rfl rfl rfl ?_
    refine Ex_iload_n dX12_toss_30 rfl rfl ?_
    refine Ex_iald12 (c := a) dX12_toss_31 rfl (ma8 M1_) (by omega) (by omega) ?_
    rw [k2]
    refine Ex_istore_n (L2 := [_, _, _, _]) dX12_toss_32 rfl rfl rfl ?_
    refine Ex_iload_n dX12_toss_33 rfl rfl ?_
    refine Ex_iconst dX12_toss_34 rfl ?_
    refine Ex_icmp_eq (t := 53) dX12_toss_35 rfl rfl (by omega) (fun c35 => ?_) (fun c35 => ?_)
    · refine Ex_bipush dX12_toss_53 rfl (by decide) ?_
      refine Ex_iret dX12_toss_55 rfl rfl ?_
      exact ⟨ri (by unfold tss; rw [if_pos (by omega)]), ⟨_, ⟨_, _, _, M1_, hn, h6, h23, fun _ _ => rfl⟩, V, h16⟩, f1_⟩
    · refine Ex_iload_n dX12_toss_38 rfl rfl ?_
      refine Ex_iconst dX12_toss_39 rfl ?_
      refine Ex_icmp_eq (t := 53) dX12_toss_40 rfl rfl (by omega) (fun c40 => ?_) (fun c40 => ?_)
      · refine Ex_bipush dX12_toss_53 rfl (by decide) ?_
        refine Ex_iret dX12_toss_55 rfl rfl ?_
        exact ⟨ri (by unfold tss; rw [if_pos (by omega)]), ⟨_, ⟨_, _, _, M1_, hn, h6, h23, fun _ _ => rfl⟩, V, h16⟩, f1_⟩
      · refine Ex_iload_n dX12_toss_43 rfl rfl ?_
        refine Ex_bipush dX12_toss_44 rfl (by decide) ?_
        refine Ex_icmp_eq (t := 53) dX12_toss_46 rfl rfl (by omega) (fun c46 => ?_) (fun c46 => ?_)
        · refine Ex_bipush dX12_toss_53 rfl (by decide) ?_
          refine Ex_iret dX12_toss_55 rfl rfl ?_
          exact ⟨ri (by unfold tss; rw [if_pos (by omega)]), ⟨_, ⟨_, _, _, M1_, hn, h6, h23, fun _ _ => rfl⟩, V, h16⟩, f1_⟩
        · refine Ex_iload_n dX12_toss_49 rfl rfl ?_
          refine Ex_if_ne (t := 56) dX12_toss_50 rfl rfl (by omega) (fun c50 => ?_) (fun c50 => ?_)
          · refine Ex_iload_n dX12_toss_56 rfl rfl ?_
            refine Ex_if_ne (t := 64) dX12_toss_57 rfl rfl (by omega) (fun c57 => ?_) (fun c57 => ?_)
            · refine Ex_iload_n dX12_toss_64 rfl rfl ?_
              refine Ex_bipush dX12_toss_65 rfl (by decide) ?_
              refine Ex_icmp_ne (t := 82) dX12_toss_67 rfl rfl (by omega) (fun c67 => ?_) (fun c67 => ?_)
              · refine Ex_bipush dX12_toss_82 rfl (by decide) ?_
                refine Ex_iload_n dX12_toss_84 rfl rfl ?_
                refine Ex_iadd dX12_toss_85 rfl ?_
                refine Ex_iret dX12_toss_86 rfl rfl ?_
                exact ⟨ri (by unfold tss; rw [if_neg (by omega)]; first | rw [if_pos (by omega)] | (rw [if_neg (by omega)]; first | rw [if_pos (by omega)] | rw [if_neg (by omega)])), ⟨_, ⟨_, _, _, M1_, hn, h6, h23, fun _ _ => rfl⟩, V, h16⟩, f1_⟩
              · refine Ex_sipush dX12_toss_70 rfl (by decide) ?_
                refine Ex_iload_n dX12_toss_73 rfl rfl ?_
                refine Ex_iload_n dX12_toss_74 rfl rfl ?_
                refine Ex_stat 0 dX12_toss_75 rfl rfl (Or.inl rfl) rfl rfl rfl rfl rfl rfl (Ex_post (x12_costOf k3 k4) ?_)
                rintro _ _ ⟨rfl, e0⟩
                obtain rfl := Eq.symm e0
                refine Ex_iadd dX12_toss_78 rfl ?_
                refine Ex_goto (t := 86) dX12_toss_79 rfl ?_
                refine Ex_iret dX12_toss_86 rfl rfl ?_
                exact ⟨ri (by unfold tss; rw [if_neg (by omega)]; first | rw [if_pos (by omega)] | (rw [if_neg (by omega)]; first | rw [if_pos (by omega)] | rw [if_neg (by omega)])), ⟨_, ⟨_, _, _, M1_, hn, h6, h23, fun _ _ => rfl⟩, V, h16⟩, f1_⟩
            · refine Ex_iload_n dX12_toss_60 rfl rfl ?_
              refine Ex_goto (t := 86) dX12_toss_61 rfl ?_
              refine Ex_iret dX12_toss_86 rfl rfl ?_
              exact ⟨ri (by unfold tss; rw [if_neg (by omega)]; first | rw [if_pos (by omega)] | (rw [if_neg (by omega)]; first | rw [if_pos (by omega)] | rw [if_neg (by omega)])), ⟨_, ⟨_, _, _, M1_, hn, h6, h23, fun _ _ => rfl⟩, V, h16⟩, f1_⟩
          · refine Ex_bipush dX12_toss_53 rfl (by decide) ?_
            refine Ex_iret dX12_toss_55 rfl rfl ?_
            exact ⟨ri (by unfold tss; rw [if_pos (by omega)]), ⟨_, ⟨_, _, _, M1_, hn, h6, h23, fun _ _ => rfl⟩, V, h16⟩, f1_⟩
  · have gw := why_r (hw := hw) (a := a)
    have ea : an_toss hw ck cf a = why hw a := if_neg q
    rw [ea]
    refine Ex_aload_n dX12_toss_0 rfl rfl ?_
    refine Ex_iconst dX12_toss_1 rfl ?_
    refine Ex_put12 (k0 := 13) (v := 0) dX12_toss_2 rfl (ma0 M) rfl rfl rfl rfl rfl (by omega) rfl ?_
    refine mg0 M ?_
    intro h1_ M1_ f1_
    refine Ex_aload_n dX12_toss_5 rfl rfl ?_
    refine Ex_iload_n dX12_toss_6 rfl rfl ?_
    refine Ex_inv 2 dX12_toss_7 rfl rfl (Or.inl rfl) rfl rfl rfl rfl (ma0 M1_) rfl rfl rfl (Ex_post (x12_wK M1_ V (by omega)) ?_)
    rintro _ _ ⟨rfl, e0⟩
    obtain rfl := Eq.symm e0
    rw [if_neg q]
    refine Ex_if_ge (t := 19) dX12_toss_10 rfl rfl (by omega) (fun c10 => absurd c10 (by omega)) (fun c10 => ?_)
    refine Ex_aload_n dX12_toss_13 rfl rfl ?_
    refine Ex_iload_n dX12_toss_14 rfl rfl ?_
    refine Ex_inv 2 dX12_toss_15 rfl rfl (Or.inl rfl) rfl rfl rfl rfl (ma0 M1_) rfl rfl rfl (Ex_post (x12_wK M1_ V (by omega)) ?_)
    rintro _ _ ⟨rfl, e0⟩
    obtain rfl := Eq.symm e0
    rw [if_neg q]
    refine Ex_iret dX12_toss_18 rfl rfl ?_
    exact ⟨rfl, ⟨_, ⟨_, _, _, M1_, hn, h6, h23, fun _ _ => rfl⟩, V, h16⟩, f1_⟩
theorem x12_frights_i {E : am_E} {d : Nat} {h : Hp} {m n : Nat} {g K F T S C : Nat → Int} {ρ : Nat → Nat → Int} {kp : Value} {c l t b : Nat} {go p gd tt : Int} {Q : Option Value → Hp → Prop} (M : MAt h m g K F T S C ρ kp) (hn : g 0 = (n : Int)) (hn6 : n ≤ 6) (hK : ∀ i, i < n → (0 ≤ K i ∧ K i ≤ 7) ∧ (0 ≤ F i ∧ F i ≤ 9)) (hc : c < n) (hl8 : l ≤ 8) (ht : 2 ≤ t ∧ t ≤ 20) (hb : b < 256) : ∀ (k i : Nat) (w st tr : Int) (v16 : Value), i + k = l → (0 ≤ st ∧ st ≤ 7) → (0 ≤ tr ∧ tr ≤ 20) → (∀ (w2 st2 tr2 : Int) (v16 : Value), (0 ≤ st2 ∧ st2 ≤ 7) → (if S c + go ≤ st2 then w2 else 0) = w * ct (K c) (F c) (S c + go) (t : Int) k (b / 2 ^ i) tr st → Ex E (d + 2) mX12_frights 234 [.ref m, .int (i32 (c : Int)), .int (i32 (l : Int)), .int (i32 go), .int (i32 (t : Int)), .int (i32 p), .long (i64 gd), .retAddr 0, .long (i64 tt), .retAddr 0, .int (i32 (b : Int)), .long (i64 w2), .retAddr 0, .int (i32 st2), .int (i32 tr2), .int (i32 (l : Int)), v16] [] h Q) → Ex E (d + 2) mX12_frights 129 [.ref m, .int (i32 (c : Int)), .int (i32 (l : Int)), .int (i32 go), .int (i32 (t : Int)), .int (i32 p), .long (i64 gd), .retAddr 0, .long (i64 tt), .retAddr 0, .int (i32 (b : Int)), .long (i64 w), .retAddr 0, .int (i32 st), .int (i32 tr), .int (i32 (i : Int)), v16] [] h Q := by
  intro k
  induction k with
  | zero =>
    intro i w st tr v16 hk hst htr kont
    obtain rfl : i = l := by omega
    refine Ex_iload dX12_frights_129 rfl rfl ?_
    refine Ex_iload_n dX12_frights_131 rfl rfl ?_
    refine Ex_icmp_ge (t := 234) dX12_frights_132 rfl rfl (by omega) (fun c132 => ?_) (fun c132 => absurd c132 (by omega))
    refine kont w st tr _ hst ?_
    simp only [ct]
    split <;> omega
  | succ k ih =>
    intro i w st tr v16 hk hst htr kont
    have hKc := hK c hc
    have hnr := sp_needs_r (k := K c) (s := st) hKc.2 hst
    have hfr := sp_fright_r (k := K c) hKc.2
    have hdd : b / 2 ^ i / 2 = b / 2 ^ (i + 1) := by rw [Nat.div_div_eq_div_mul, Nat.pow_succ]
    have htb : b.testBit i = decide (b / 2 ^ i % 2 = 1) := Nat.testBit_eq_decide_div_mod_eq
    have ehl : hl (tr - sp_fright (K c) (F c)) 20 = max 0 (tr - sp_fright (K c) (F c)) := by unfold hl; split <;> (try split) <;> omega
    simp only [ct, hdd] at kont
    cases hq : b.testBit i
    · have hq2 : ¬ (b / 2 ^ i % 2 = 1) := by rw [hq] at htb; simpa using htb
      simp only [if_neg hq2] at kont
      by_cases q1 : 7 ≤ st
      · simp only [if_pos q1] at kont
        refine Ex_iload dX12_frights_129 rfl rfl ?_
        refine Ex_iload_n dX12_frights_131 rfl rfl ?_
        refine Ex_icmp_ge (t := 234) dX12_frights_132 rfl rfl (by omega) (fun c132 => absurd c132 (by omega)) (fun c132 => ?_)
        refine Ex_lload dX12_frights_135 rfl rfl ?_
        refine Ex_iload dX12_frights_137 rfl rfl ?_
        refine Ex_iload dX12_frights_139 rfl rfl ?_
        refine Ex_stat 0 dX12_frights_141 rfl rfl (Or.inl rfl) rfl rfl rfl rfl rfl rfl (Ex_post (x12_hasBit hb (by omega)) ?_)
        rintro _ _ ⟨rfl, e0⟩
        obtain rfl := Eq.symm e0
        rw [hq]
        refine Ex_if_eq (t := 151) dX12_frights_144 rfl rfl (by simp) (fun c144 => ?_) (fun c144 => absurd c144 (by simp at c144))
        refine Ex_iload dX12_frights_151 rfl rfl ?_
        refine Ex_iconst dX12_frights_153 rfl ?_
        refine Ex_isub dX12_frights_154 rfl ?_
        refine Ex_i2l dX12_frights_155 rfl (by omega) ?_
        refine Ex_lmul dX12_frights_156 rfl ?_
        refine Ex_lstore (L2 := [_, _, _, _, _, _, _, _, _, _, _, _, _, _, _, _, _]) dX12_frights_157 rfl rfl rfl ?_
        refine Ex_iload dX12_frights_159 rfl rfl ?_
        refine Ex_bipush dX12_frights_161 rfl (by decide) ?_
        refine Ex_icmp_ge (t := 182) dX12_frights_163 rfl rfl (by omega) (fun c163 => ?_) (fun c163 => absurd c163 (by omega))
        refine Ex_iconst dX12_frights_182 rfl ?_
        refine Ex_istore (L2 := [_, _, _, _, _, _, _, _, _, _, _, _, _, _, _, _, _]) dX12_frights_183 rfl rfl rfl ?_
        refine Ex_iload dX12_frights_185 rfl rfl ?_
        refine Ex_if_eq (t := 206) dX12_frights_187 rfl rfl (by omega) (fun c187 => ?_) (fun c187 => absurd c187 (by omega))
        refine Ex_iload dX12_frights_206 rfl rfl ?_
        refine Ex_bipush dX12_frights_208 rfl (by decide) ?_
        refine Ex_icmp_ge (t := 228) dX12_frights_210 rfl rfl (by omega) (fun c210 => ?_) (fun c210 => absurd c210 (by omega))
        refine Ex_iinc (L2 := [_, _, _, _, _, _, _, _, _, _, _, _, _, _, _, _, _]) dX12_frights_228 rfl rfl rfl ?_
        refine Ex_goto (t := 129) dX12_frights_231 rfl ?_
        refine ih (i + 1) _ _ _ _ (by omega) (by omega) (by omega) (fun w2 st2 tr2 v16 z1 z2 => kont w2 st2 tr2 v16 z1 (by rw [z2, Int.mul_assoc]))
      · simp only [if_neg q1] at kont
        by_cases q2 : tr < sp_needs (K c) (F c) st
        · simp only [if_pos q2] at kont
          refine Ex_iload dX12_frights_129 rfl rfl ?_
          refine Ex_iload_n dX12_frights_131 rfl rfl ?_
          refine Ex_icmp_ge (t := 234) dX12_frights_132 rfl rfl (by omega) (fun c132 => absurd c132 (by omega)) (fun c132 => ?_)
          refine Ex_lload dX12_frights_135 rfl rfl ?_
          refine Ex_iload dX12_frights_137 rfl rfl ?_
          refine Ex_iload dX12_frights_139 rfl rfl ?_
          refine Ex_stat 0 dX12_frights_141 rfl rfl (Or.inl rfl) rfl rfl rfl rfl rfl rfl (Ex_post (x12_hasBit hb (by omega)) ?_)
          rintro _ _ ⟨rfl, e0⟩
          obtain rfl := Eq.symm e0
          rw [hq]
          refine Ex_if_eq (t := 151) dX12_frights_144 rfl rfl (by simp) (fun c144 => ?_) (fun c144 => absurd c144 (by simp at c144))
          refine Ex_iload dX12_frights_151 rfl rfl ?_
          refine Ex_iconst dX12_frights_153 rfl ?_
          refine Ex_isub dX12_frights_154 rfl ?_
          refine Ex_i2l dX12_frights_155 rfl (by omega) ?_
          refine Ex_lmul dX12_frights_156 rfl ?_
          refine Ex_lstore (L2 := [_, _, _, _, _, _, _, _, _, _, _, _, _, _, _, _, _]) dX12_frights_157 rfl rfl rfl ?_
          refine Ex_iload dX12_frights_159 rfl rfl ?_
          refine Ex_bipush dX12_frights_161 rfl (by decide) ?_
          refine Ex_icmp_ge (t := 182) dX12_frights_163 rfl rfl (by omega) (fun c163 => absurd c163 (by omega)) (fun c163 => ?_)
          refine Ex_iload dX12_frights_166 rfl rfl ?_
          refine Ex_aload_n dX12_frights_168 rfl rfl ?_
          refine Ex_iload_n dX12_frights_169 rfl rfl ?_
          refine Ex_iload dX12_frights_170 rfl rfl ?_
          refine Ex_inv 2 dX12_frights_172 rfl rfl (Or.inl rfl) rfl rfl rfl rfl (ma0 M) rfl rfl rfl (Ex_post (x12_needsAt M hn6 hK hc hst) ?_)
          rintro _ _ ⟨rfl, e0⟩
          obtain rfl := Eq.symm e0
          refine Ex_icmp_lt (t := 182) dX12_frights_175 rfl rfl (by omega) (fun c175 => ?_) (fun c175 => absurd c175 (by omega))
          refine Ex_iconst dX12_frights_182 rfl ?_
          refine Ex_istore (L2 := [_, _, _, _, _, _, _, _, _, _, _, _, _, _, _, _, _]) dX12_frights_183 rfl rfl rfl ?_
          refine Ex_iload dX12_frights_185 rfl rfl ?_
          refine Ex_if_eq (t := 206) dX12_frights_187 rfl rfl (by omega) (fun c187 => ?_) (fun c187 => absurd c187 (by omega))
          refine Ex_iload dX12_frights_206 rfl rfl ?_
          refine Ex_bipush dX12_frights_208 rfl (by decide) ?_
          refine Ex_icmp_ge (t := 228) dX12_frights_210 rfl rfl (by omega) (fun c210 => absurd c210 (by omega)) (fun c210 => ?_)
          refine Ex_iload dX12_frights_213 rfl rfl ?_
          refine Ex_aload_n dX12_frights_215 rfl rfl ?_
          refine Ex_iload_n dX12_frights_216 rfl rfl ?_
          refine Ex_inv 2 dX12_frights_217 rfl rfl (Or.inl rfl) rfl rfl rfl rfl (ma0 M) rfl rfl rfl (Ex_post (x12_frightOf M hn6 hK hc) ?_)
          rintro _ _ ⟨rfl, e0⟩
          obtain rfl := Eq.symm e0
          refine Ex_isub dX12_frights_220 rfl ?_
          refine Ex_bipush dX12_frights_221 rfl (by decide) ?_
          refine Ex_stat 0 dX12_frights_223 rfl rfl (Or.inl rfl) rfl rfl rfl rfl rfl rfl (Ex_post (x12_held (by omega) (by omega)) ?_)
          rintro _ _ ⟨rfl, e0⟩
          obtain rfl := Eq.symm e0
          rw [ehl]
          refine Ex_istore (L2 := [_, _, _, _, _, _, _, _, _, _, _, _, _, _, _, _, _]) dX12_frights_226 rfl rfl rfl ?_
          refine Ex_iinc (L2 := [_, _, _, _, _, _, _, _, _, _, _, _, _, _, _, _, _]) dX12_frights_228 rfl rfl rfl ?_
          refine Ex_goto (t := 129) dX12_frights_231 rfl ?_
          refine ih (i + 1) _ _ _ _ (by omega) (by omega) (by omega) (fun w2 st2 tr2 v16 z1 z2 => kont w2 st2 tr2 v16 z1 (by rw [z2, Int.mul_assoc]))
        · simp only [if_neg q2] at kont
          refine Ex_iload dX12_frights_129 rfl rfl ?_
          refine Ex_iload_n dX12_frights_131 rfl rfl ?_
          refine Ex_icmp_ge (t := 234) dX12_frights_132 rfl rfl (by omega) (fun c132 => absurd c132 (by omega)) (fun c132 => ?_)
          refine Ex_lload dX12_frights_135 rfl rfl ?_
          refine Ex_iload dX12_frights_137 rfl rfl ?_
          refine Ex_iload dX12_frights_139 rfl rfl ?_
          refine Ex_stat 0 dX12_frights_141 rfl rfl (Or.inl rfl) rfl rfl rfl rfl rfl rfl (Ex_post (x12_hasBit hb (by omega)) ?_)
          rintro _ _ ⟨rfl, e0⟩
          obtain rfl := Eq.symm e0
          rw [hq]
          refine Ex_if_eq (t := 151) dX12_frights_144 rfl rfl (by simp) (fun c144 => ?_) (fun c144 => absurd c144 (by simp at c144))
          refine Ex_iload dX12_frights_151 rfl rfl ?_
          refine Ex_iconst dX12_frights_153 rfl ?_
          refine Ex_isub dX12_frights_154 rfl ?_
          refine Ex_i2l dX12_frights_155 rfl (by omega) ?_
          refine Ex_lmul dX12_frights_156 rfl ?_
          refine Ex_lstore (L2 := [_, _, _, _, _, _, _, _, _, _, _, _, _, _, _, _, _]) dX12_frights_157 rfl rfl rfl ?_
          refine Ex_iload dX12_frights_159 rfl rfl ?_
          refine Ex_bipush dX12_frights_161 rfl (by decide) ?_
          refine Ex_icmp_ge (t := 182) dX12_frights_163 rfl rfl (by omega) (fun c163 => absurd c163 (by omega)) (fun c163 => ?_)
          refine Ex_iload dX12_frights_166 rfl rfl ?_
          refine Ex_aload_n dX12_frights_168 rfl rfl ?_
          refine Ex_iload_n dX12_frights_169 rfl rfl ?_
          refine Ex_iload dX12_frights_170 rfl rfl ?_
          refine Ex_inv 2 dX12_frights_172 rfl rfl (Or.inl rfl) rfl rfl rfl rfl (ma0 M) rfl rfl rfl (Ex_post (x12_needsAt M hn6 hK hc hst) ?_)
          rintro _ _ ⟨rfl, e0⟩
          obtain rfl := Eq.symm e0
          refine Ex_icmp_lt (t := 182) dX12_frights_175 rfl rfl (by omega) (fun c175 => absurd c175 (by omega)) (fun c175 => ?_)
          refine Ex_iconst dX12_frights_178 rfl ?_
          refine Ex_goto (t := 183) dX12_frights_179 rfl ?_
          refine Ex_istore (L2 := [_, _, _, _, _, _, _, _, _, _, _, _, _, _, _, _, _]) dX12_frights_183 rfl rfl rfl ?_
          refine Ex_iload dX12_frights_185 rfl rfl ?_
          refine Ex_if_eq (t := 206) dX12_frights_187 rfl rfl (by omega) (fun c187 => absurd c187 (by omega)) (fun c187 => ?_)
          refine Ex_iload dX12_frights_190 rfl rfl ?_
          refine Ex_iload dX12_frights_192 rfl rfl ?_
          refine Ex_stat 0 dX12_frights_194 rfl rfl (Or.inl rfl) rfl rfl rfl rfl rfl rfl (Ex_post (x12_hasBit hb (by omega)) ?_)
          rintro _ _ ⟨rfl, e0⟩
          obtain rfl := Eq.symm e0
          rw [hq]
          refine Ex_if_ne (t := 206) dX12_frights_197 rfl rfl (by simp) (fun c197 => absurd c197 (by simp at c197)) (fun c197 => ?_)
          refine Ex_iinc (L2 := [_, _, _, _, _, _, _, _, _, _, _, _, _, _, _, _, _]) dX12_frights_200 rfl rfl rfl ?_
          refine Ex_goto (t := 228) dX12_frights_203 rfl ?_
          refine Ex_iinc (L2 := [_, _, _, _, _, _, _, _, _, _, _, _, _, _, _, _, _]) dX12_frights_228 rfl rfl rfl ?_
          refine Ex_goto (t := 129) dX12_frights_231 rfl ?_
          refine ih (i + 1) _ _ _ _ (by omega) (by omega) (by omega) (fun w2 st2 tr2 v16 z1 z2 => kont w2 st2 tr2 v16 z1 (by rw [z2, Int.mul_assoc]))
    · have hq2 : b / 2 ^ i % 2 = 1 := by rw [hq] at htb; simpa using htb
      simp only [if_pos hq2] at kont
      by_cases q1 : 7 ≤ st
      · simp only [if_pos q1] at kont
        refine Ex_iload dX12_frights_129 rfl rfl ?_
        refine Ex_iload_n dX12_frights_131 rfl rfl ?_
        refine Ex_icmp_ge (t := 234) dX12_frights_132 rfl rfl (by omega) (fun c132 => absurd c132 (by omega)) (fun c132 => ?_)
        refine Ex_lload dX12_frights_135 rfl rfl ?_
        refine Ex_iload dX12_frights_137 rfl rfl ?_
        refine Ex_iload dX12_frights_139 rfl rfl ?_
        refine Ex_stat 0 dX12_frights_141 rfl rfl (Or.inl rfl) rfl rfl rfl rfl rfl rfl (Ex_post (x12_hasBit hb (by omega)) ?_)
        rintro _ _ ⟨rfl, e0⟩
        obtain rfl := Eq.symm e0
        rw [hq]
        refine Ex_if_eq (t := 151) dX12_frights_144 rfl rfl (by simp) (fun c144 => absurd c144 (by simp at c144)) (fun c144 => ?_)
        refine Ex_lconst (z := 1) dX12_frights_147 rfl (by decide) ?_
        refine Ex_goto (t := 156) dX12_frights_148 rfl ?_
        refine Ex_lmul dX12_frights_156 rfl ?_
        refine Ex_lstore (L2 := [_, _, _, _, _, _, _, _, _, _, _, _, _, _, _, _, _]) dX12_frights_157 rfl rfl rfl ?_
        refine Ex_iload dX12_frights_159 rfl rfl ?_
        refine Ex_bipush dX12_frights_161 rfl (by decide) ?_
        refine Ex_icmp_ge (t := 182) dX12_frights_163 rfl rfl (by omega) (fun c163 => ?_) (fun c163 => absurd c163 (by omega))
        refine Ex_iconst dX12_frights_182 rfl ?_
        refine Ex_istore (L2 := [_, _, _, _, _, _, _, _, _, _, _, _, _, _, _, _, _]) dX12_frights_183 rfl rfl rfl ?_
        refine Ex_iload dX12_frights_185 rfl rfl ?_
        refine Ex_if_eq (t := 206) dX12_frights_187 rfl rfl (by omega) (fun c187 => ?_) (fun c187 => absurd c187 (by omega))
        refine Ex_iload dX12_frights_206 rfl rfl ?_
        refine Ex_bipush dX12_frights_208 rfl (by decide) ?_
        refine Ex_icmp_ge (t := 228) dX12_frights_210 rfl rfl (by omega) (fun c210 => ?_) (fun c210 => absurd c210 (by omega))
        refine Ex_iinc (L2 := [_, _, _, _, _, _, _, _, _, _, _, _, _, _, _, _, _]) dX12_frights_228 rfl rfl rfl ?_
        refine Ex_goto (t := 129) dX12_frights_231 rfl ?_
        refine ih (i + 1) _ _ _ _ (by omega) (by omega) (by omega) (fun w2 st2 tr2 v16 z1 z2 => kont w2 st2 tr2 v16 z1 (by rw [z2, Int.mul_assoc]))
      · simp only [if_neg q1] at kont
        by_cases q2 : tr < sp_needs (K c) (F c) st
        · simp only [if_pos q2] at kont
          refine Ex_iload dX12_frights_129 rfl rfl ?_
          refine Ex_iload_n dX12_frights_131 rfl rfl ?_
          refine Ex_icmp_ge (t := 234) dX12_frights_132 rfl rfl (by omega) (fun c132 => absurd c132 (by omega)) (fun c132 => ?_)
          refine Ex_lload dX12_frights_135 rfl rfl ?_
          refine Ex_iload dX12_frights_137 rfl rfl ?_
          refine Ex_iload dX12_frights_139 rfl rfl ?_
          refine Ex_stat 0 dX12_frights_141 rfl rfl (Or.inl rfl) rfl rfl rfl rfl rfl rfl (Ex_post (x12_hasBit hb (by omega)) ?_)
          rintro _ _ ⟨rfl, e0⟩
          obtain rfl := Eq.symm e0
          rw [hq]
          refine Ex_if_eq (t := 151) dX12_frights_144 rfl rfl (by simp) (fun c144 => absurd c144 (by simp at c144)) (fun c144 => ?_)
          refine Ex_lconst (z := 1) dX12_frights_147 rfl (by decide) ?_
          refine Ex_goto (t := 156) dX12_frights_148 rfl ?_
          refine Ex_lmul dX12_frights_156 rfl ?_
          refine Ex_lstore (L2 := [_, _, _, _, _, _, _, _, _, _, _, _, _, _, _, _, _]) dX12_frights_157 rfl rfl rfl ?_
          refine Ex_iload dX12_frights_159 rfl rfl ?_
          refine Ex_bipush dX12_frights_161 rfl (by decide) ?_
          refine Ex_icmp_ge (t := 182) dX12_frights_163 rfl rfl (by omega) (fun c163 => absurd c163 (by omega)) (fun c163 => ?_)
          refine Ex_iload dX12_frights_166 rfl rfl ?_
          refine Ex_aload_n dX12_frights_168 rfl rfl ?_
          refine Ex_iload_n dX12_frights_169 rfl rfl ?_
          refine Ex_iload dX12_frights_170 rfl rfl ?_
          refine Ex_inv 2 dX12_frights_172 rfl rfl (Or.inl rfl) rfl rfl rfl rfl (ma0 M) rfl rfl rfl (Ex_post (x12_needsAt M hn6 hK hc hst) ?_)
          rintro _ _ ⟨rfl, e0⟩
          obtain rfl := Eq.symm e0
          refine Ex_icmp_lt (t := 182) dX12_frights_175 rfl rfl (by omega) (fun c175 => ?_) (fun c175 => absurd c175 (by omega))
          refine Ex_iconst dX12_frights_182 rfl ?_
          refine Ex_istore (L2 := [_, _, _, _, _, _, _, _, _, _, _, _, _, _, _, _, _]) dX12_frights_183 rfl rfl rfl ?_
          refine Ex_iload dX12_frights_185 rfl rfl ?_
          refine Ex_if_eq (t := 206) dX12_frights_187 rfl rfl (by omega) (fun c187 => ?_) (fun c187 => absurd c187 (by omega))
          refine Ex_iload dX12_frights_206 rfl rfl ?_
          refine Ex_bipush dX12_frights_208 rfl (by decide) ?_
          refine Ex_icmp_ge (t := 228) dX12_frights_210 rfl rfl (by omega) (fun c210 => absurd c210 (by omega)) (fun c210 => ?_)
          refine Ex_iload dX12_frights_213 rfl rfl ?_
          refine Ex_aload_n dX12_frights_215 rfl rfl ?_
          refine Ex_iload_n dX12_frights_216 rfl rfl ?_
          refine Ex_inv 2 dX12_frights_217 rfl rfl (Or.inl rfl) rfl rfl rfl rfl (ma0 M) rfl rfl rfl (Ex_post (x12_frightOf M hn6 hK hc) ?_)
          rintro _ _ ⟨rfl, e0⟩
          obtain rfl := Eq.symm e0
          refine Ex_isub dX12_frights_220 rfl ?_
          refine Ex_bipush dX12_frights_221 rfl (by decide) ?_
          refine Ex_stat 0 dX12_frights_223 rfl rfl (Or.inl rfl) rfl rfl rfl rfl rfl rfl (Ex_post (x12_held (by omega) (by omega)) ?_)
          rintro _ _ ⟨rfl, e0⟩
          obtain rfl := Eq.symm e0
          rw [ehl]
          refine Ex_istore (L2 := [_, _, _, _, _, _, _, _, _, _, _, _, _, _, _, _, _]) dX12_frights_226 rfl rfl rfl ?_
          refine Ex_iinc (L2 := [_, _, _, _, _, _, _, _, _, _, _, _, _, _, _, _, _]) dX12_frights_228 rfl rfl rfl ?_
          refine Ex_goto (t := 129) dX12_frights_231 rfl ?_
          refine ih (i + 1) _ _ _ _ (by omega) (by omega) (by omega) (fun w2 st2 tr2 v16 z1 z2 => kont w2 st2 tr2 v16 z1 (by rw [z2, Int.mul_assoc]))
        · simp only [if_neg q2] at kont
          refine Ex_iload dX12_frights_129 rfl rfl ?_
          refine Ex_iload_n dX12_frights_131 rfl rfl ?_
          refine Ex_icmp_ge (t := 234) dX12_frights_132 rfl rfl (by omega) (fun c132 => absurd c132 (by omega)) (fun c132 => ?_)
          refine Ex_lload dX12_frights_135 rfl rfl ?_
          refine Ex_iload dX12_frights_137 rfl rfl ?_
          refine Ex_iload dX12_frights_139 rfl rfl ?_
          refine Ex_stat 0 dX12_frights_141 rfl rfl (Or.inl rfl) rfl rfl rfl rfl rfl rfl (Ex_post (x12_hasBit hb (by omega)) ?_)
          rintro _ _ ⟨rfl, e0⟩
          obtain rfl := Eq.symm e0
          rw [hq]
          refine Ex_if_eq (t := 151) dX12_frights_144 rfl rfl (by simp) (fun c144 => absurd c144 (by simp at c144)) (fun c144 => ?_)
          refine Ex_lconst (z := 1) dX12_frights_147 rfl (by decide) ?_
          refine Ex_goto (t := 156) dX12_frights_148 rfl ?_
          refine Ex_lmul dX12_frights_156 rfl ?_
          refine Ex_lstore (L2 := [_, _, _, _, _, _, _, _, _, _, _, _, _, _, _, _, _]) dX12_frights_157 rfl rfl rfl ?_
          refine Ex_iload dX12_frights_159 rfl rfl ?_
          refine Ex_bipush dX12_frights_161 rfl (by decide) ?_
          refine Ex_icmp_ge (t := 182) dX12_frights_163 rfl rfl (by omega) (fun c163 => absurd c163 (by omega)) (fun c163 => ?_)
          refine Ex_iload dX12_frights_166 rfl rfl ?_
          refine Ex_aload_n dX12_frights_168 rfl rfl ?_
          refine Ex_iload_n dX12_frights_169 rfl rfl ?_
          refine Ex_iload dX12_frights_170 rfl rfl ?_
          refine Ex_inv 2 dX12_frights_172 rfl rfl (Or.inl rfl) rfl rfl rfl rfl (ma0 M) rfl rfl rfl (Ex_post (x12_needsAt M hn6 hK hc hst) ?_)
          rintro _ _ ⟨rfl, e0⟩
          obtain rfl := Eq.symm e0
          refine Ex_icmp_lt (t := 182) dX12_frights_175 rfl rfl (by omega) (fun c175 => absurd c175 (by omega)) (fun c175 => ?_)
          refine Ex_iconst dX12_frights_178 rfl ?_
          refine Ex_goto (t := 183) dX12_frights_179 rfl ?_
          refine Ex_istore (L2 := [_, _, _, _, _, _, _, _, _, _, _, _, _, _, _, _, _]) dX12_frights_183 rfl rfl rfl ?_
          refine Ex_iload dX12_frights_185 rfl rfl ?_
          refine Ex_if_eq (t := 206) dX12_frights_187 rfl rfl (by omega) (fun c187 => absurd c187 (by omega)) (fun c187 => ?_)
          refine Ex_iload dX12_frights_190 rfl rfl ?_
          refine Ex_iload dX12_frights_192 rfl rfl ?_
          refine Ex_stat 0 dX12_frights_194 rfl rfl (Or.inl rfl) rfl rfl rfl rfl rfl rfl (Ex_post (x12_hasBit hb (by omega)) ?_)
          rintro _ _ ⟨rfl, e0⟩
          obtain rfl := Eq.symm e0
          rw [hq]
          refine Ex_if_ne (t := 206) dX12_frights_197 rfl rfl (by simp) (fun c197 => ?_) (fun c197 => absurd c197 (by simp at c197))
          refine Ex_iload dX12_frights_206 rfl rfl ?_
          refine Ex_bipush dX12_frights_208 rfl (by decide) ?_
          refine Ex_icmp_ge (t := 228) dX12_frights_210 rfl rfl (by omega) (fun c210 => absurd c210 (by omega)) (fun c210 => ?_)
          refine Ex_iload dX12_frights_213 rfl rfl ?_
          refine Ex_aload_n dX12_frights_215 rfl rfl ?_
          refine Ex_iload_n dX12_frights_216 rfl rfl ?_
          refine Ex_inv 2 dX12_frights_217 rfl rfl (Or.inl rfl) rfl rfl rfl rfl (ma0 M) rfl rfl rfl (Ex_post (x12_frightOf M hn6 hK hc) ?_)
          rintro _ _ ⟨rfl, e0⟩
          obtain rfl := Eq.symm e0
          refine Ex_isub dX12_frights_220 rfl ?_
          refine Ex_bipush dX12_frights_221 rfl (by decide) ?_
          refine Ex_stat 0 dX12_frights_223 rfl rfl (Or.inl rfl) rfl rfl rfl rfl rfl rfl (Ex_post (x12_held (by omega) (by omega)) ?_)
          rintro _ _ ⟨rfl, e0⟩
          obtain rfl := Eq.symm e0
          rw [ehl]
          refine Ex_istore (L2 := [_, _, _, _, _, _, _, _, _, _, _, _, _, _, _, _, _]) dX12_frights_226 rfl rfl rfl ?_
          refine Ex_iinc (L2 := [_, _, _, _, _, _, _, _, _, _, _, _, _, _, _, _, _]) dX12_frights_228 rfl rfl rfl ?_
          refine Ex_goto (t := 129) dX12_frights_231 rfl ?_
          refine ih (i + 1) _ _ _ _ (by omega) (by omega) (by omega) (fun w2 st2 tr2 v16 z1 z2 => kont w2 st2 tr2 v16 z1 (by rw [z2, Int.mul_assoc]))
theorem x12_frights_o {E : am_E} {d : Nat} {h : Hp} {m n : Nat} {g K F T S C : Nat → Int} {ρ : Nat → Nat → Int} {kp : Value} {c l t N : Nat} {go p tt : Int} {Q : Option Value → Hp → Prop} (M : MAt h m g K F T S C ρ kp) (hn : g 0 = (n : Int)) (hn6 : n ≤ 6) (hg : Rng n T S C) (hK : ∀ i, i < n → (0 ≤ K i ∧ K i ≤ 7) ∧ (0 ≤ F i ∧ F i ≤ 9)) (hc : c < n) (hl8 : l ≤ 8) (ht : 2 ≤ t ∧ t ≤ 20) (hgo : 0 ≤ go ∧ go ≤ 7) (hN : N = 2 ^ l) : ∀ (k b : Nat) (gd : Int) (v11 v12 v13 v14 v15 v16 : Value), b + k = N → (∀ (b9 : Int) (v11 v12 v13 v14 v15 v16 : Value), Ex E (d + 2) mX12_frights 264 [.ref m, .int (i32 (c : Int)), .int (i32 (l : Int)), .int (i32 go), .int (i32 (t : Int)), .int (i32 p), .long (i64 (gd + sm (fun b => ct (K c) (F c) (S c + go) (t : Int) l b (T c) (S c)) b k)), .retAddr 0, .long (i64 tt), .retAddr 0, .int (i32 b9), v11, v12, v13, v14, v15, v16] [] h Q) → Ex E (d + 2) mX12_frights 99 [.ref m, .int (i32 (c : Int)), .int (i32 (l : Int)), .int (i32 go), .int (i32 (t : Int)), .int (i32 p), .long (i64 gd), .retAddr 0, .long (i64 tt), .retAddr 0, .int (i32 (b : Int)), v11, v12, v13, v14, v15, v16] [] h Q := by
  have hN8 : N ≤ 256 := by
    rw [hN]
    rcases (show l = 0 ∨ l = 1 ∨ l = 2 ∨ l = 3 ∨ l = 4 ∨ l = 5 ∨ l = 6 ∨ l = 7 ∨ l = 8 by omega) with e | e | e | e | e | e | e | e | e <;> rw [e] <;> decide
  have hNi : (2 : Int) ^ l = (N : Int) := by rw [hN]; exact (Int.natCast_pow 2 l).symm
  have hgc := hg c hc
  intro k
  induction k with
  | zero =>
    intro b gd v11 v12 v13 v14 v15 v16 hk kont
    refine Ex_iload dX12_frights_99 rfl rfl ?_
    refine Ex_iconst dX12_frights_101 rfl ?_
    refine Ex_iload_n dX12_frights_102 rfl rfl ?_
    refine Ex_ishl (v := ((2 : Int) ^ l)) dX12_frights_103 rfl (shl_bit9 l (by omega)) ?_
    rw [hNi]
    refine Ex_icmp_ge (t := 264) dX12_frights_104 rfl rfl (by omega) (fun c104 => ?_) (fun c104 => absurd c104 (by omega))
    have z := kont (b : Int) v11 v12 v13 v14 v15 v16
    rw [show gd + sm (fun b => ct (K c) (F c) (S c + go) (t : Int) l b (T c) (S c)) b 0 = gd by show gd + 0 = gd; omega] at z
    exact z
  | succ k ih =>
    intro b gd v11 v12 v13 v14 v15 v16 hk kont
    refine Ex_iload dX12_frights_99 rfl rfl ?_
    refine Ex_iconst dX12_frights_101 rfl ?_
    refine Ex_iload_n dX12_frights_102 rfl rfl ?_
    refine Ex_ishl (v := ((2 : Int) ^ l)) dX12_frights_103 rfl (shl_bit9 l (by omega)) ?_
    rw [hNi]
    refine Ex_icmp_ge (t := 264) dX12_frights_104 rfl rfl (by omega) (fun c104 => absurd c104 (by omega)) (fun c104 => ?_)
    refine Ex_lconst (z := 1) dX12_frights_107 rfl (by decide) ?_
    refine Ex_lstore (L2 := [_, _, _, _, _, _, _, _, _, _, _, _, _, _, _, _, _]) dX12_frights_108 rfl rfl rfl ?_
    refine Ex_aload_n dX12_frights_110 rfl rfl ?_
    refine Ex_getf dX12_frights_111 rfl (ma0 M) rfl rfl rfl ?_
    refine Ex_iload_n dX12_frights_114 rfl rfl ?_
    refine Ex_iald12 (c := c) dX12_frights_115 rfl (ma4 M) (by omega) (by omega) ?_
    refine Ex_istore (L2 := [_, _, _, _, _, _, _, _, _, _, _, _, _, _, _, _, _]) dX12_frights_116 rfl rfl rfl ?_
    refine Ex_aload_n dX12_frights_118 rfl rfl ?_
    refine Ex_getf dX12_frights_119 rfl (ma0 M) rfl rfl rfl ?_
    refine Ex_iload_n dX12_frights_122 rfl rfl ?_
    refine Ex_iald12 (c := c) dX12_frights_123 rfl (ma3 M) (by omega) (by omega) ?_
    refine Ex_istore (L2 := [_, _, _, _, _, _, _, _, _, _, _, _, _, _, _, _, _]) dX12_frights_124 rfl rfl rfl ?_
    refine Ex_iconst dX12_frights_126 rfl ?_
    refine Ex_istore (L2 := [_, _, _, _, _, _, _, _, _, _, _, _, _, _, _, _, _]) dX12_frights_127 rfl rfl rfl ?_
    refine x12_frights_i M hn hn6 hK hc hl8 ht (by omega) l 0 1 (S c) (T c) _ (by omega) (by omega) (by omega) (fun w2 st2 tr2 v9 y1 y2 => ?_)
    rw [Int.one_mul, show b / 2 ^ 0 = b by rw [Nat.pow_zero, Nat.div_one]] at y2
    by_cases q : S c + go ≤ st2
    · rw [if_pos q] at y2
      refine Ex_lload dX12_frights_234 rfl rfl ?_
      refine Ex_iload dX12_frights_236 rfl rfl ?_
      refine Ex_aload_n dX12_frights_238 rfl rfl ?_
      refine Ex_getf dX12_frights_239 rfl (ma0 M) rfl rfl rfl ?_
      refine Ex_iload_n dX12_frights_242 rfl rfl ?_
      refine Ex_iald12 (c := c) dX12_frights_243 rfl (ma4 M) (by omega) (by omega) ?_
      refine Ex_isub dX12_frights_244 rfl ?_
      refine Ex_iload_n dX12_frights_245 rfl rfl ?_
      refine Ex_icmp_lt (t := 254) dX12_frights_246 rfl rfl (by omega) (fun c246 => absurd c246 (by omega)) (fun c246 => ?_)
      refine Ex_lload dX12_frights_249 rfl rfl ?_
      refine Ex_goto (t := 255) dX12_frights_251 rfl ?_
      refine Ex_ladd dX12_frights_255 rfl ?_
      refine Ex_lstore (L2 := [_, _, _, _, _, _, _, _, _, _, _, _, _, _, _, _, _]) dX12_frights_256 rfl rfl rfl ?_
      refine Ex_iinc (L2 := [_, _, _, _, _, _, _, _, _, _, _, _, _, _, _, _, _]) dX12_frights_258 rfl rfl rfl ?_
      refine Ex_goto (t := 99) dX12_frights_261 rfl ?_
      refine ih (b + 1) _ _ _ _ _ _ _ (by omega) (fun b9 v11 v12 v13 v14 v15 v16 => ?_)
      have z := kont b9 v11 v12 v13 v14 v15 v16
      rw [show gd + sm (fun b => ct (K c) (F c) (S c + go) (t : Int) l b (T c) (S c)) b (k + 1) = gd + w2 + sm (fun b => ct (K c) (F c) (S c + go) (t : Int) l b (T c) (S c)) (b + 1) k by show gd + (ct (K c) (F c) (S c + go) (t : Int) l b (T c) (S c) + sm (fun b => ct (K c) (F c) (S c + go) (t : Int) l b (T c) (S c)) (b + 1) k) = _; rw [← y2]; omega] at z
      exact z
    · rw [if_neg q] at y2
      refine Ex_lload dX12_frights_234 rfl rfl ?_
      refine Ex_iload dX12_frights_236 rfl rfl ?_
      refine Ex_aload_n dX12_frights_238 rfl rfl ?_
      refine Ex_getf dX12_frights_239 rfl (ma0 M) rfl rfl rfl ?_
      refine Ex_iload_n dX12_frights_242 rfl rfl ?_
      refine Ex_iald12 (c := c) dX12_frights_243 rfl (ma4 M) (by omega) (by omega) ?_
      refine Ex_isub dX12_frights_244 rfl ?_
      refine Ex_iload_n dX12_frights_245 rfl rfl ?_
      refine Ex_icmp_lt (t := 254) dX12_frights_246 rfl rfl (by omega) (fun c246 => ?_) (fun c246 => absurd c246 (by omega))
      refine Ex_lconst (z := 0) dX12_frights_254 rfl (by decide) ?_
      refine Ex_ladd dX12_frights_255 rfl ?_
      refine Ex_lstore (L2 := [_, _, _, _, _, _, _, _, _, _, _, _, _, _, _, _, _]) dX12_frights_256 rfl rfl rfl ?_
      refine Ex_iinc (L2 := [_, _, _, _, _, _, _, _, _, _, _, _, _, _, _, _, _]) dX12_frights_258 rfl rfl rfl ?_
      refine Ex_goto (t := 99) dX12_frights_261 rfl ?_
      refine ih (b + 1) _ _ _ _ _ _ _ (by omega) (fun b9 v11 v12 v13 v14 v15 v16 => ?_)
      have z := kont b9 v11 v12 v13 v14 v15 v16
      rw [show gd + sm (fun b => ct (K c) (F c) (S c + go) (t : Int) l b (T c) (S c)) b (k + 1) = gd + 0 + sm (fun b => ct (K c) (F c) (S c + go) (t : Int) l b (T c) (S c)) (b + 1) k by show gd + (ct (K c) (F c) (S c + go) (t : Int) l b (T c) (S c) + sm (fun b => ct (K c) (F c) (S c + go) (t : Int) l b (T c) (S c)) (b + 1) k) = _; rw [← y2]; omega] at z
      exact z
theorem x12_frights_t {E : am_E} {d m : Nat} {h : Hp} {c l t : Nat} {go p : Int} {Q : Option Value → Hp → Prop} {v11 v12 v13 v14 v15 v16 : Value} (hl8 : l ≤ 8) (ht : 2 ≤ t ∧ t ≤ 20) : ∀ (k i : Nat), i + k = l → (Ex E (d + 2) mX12_frights 96 [.ref m, .int (i32 (c : Int)), .int (i32 (l : Int)), .int (i32 go), .int (i32 (t : Int)), .int (i32 p), .long (i64 0), .retAddr 0, .long (i64 ((t : Int) ^ l)), .retAddr 0, .int (i32 (l : Int)), v11, v12, v13, v14, v15, v16] [] h Q) → Ex E (d + 2) mX12_frights 76 [.ref m, .int (i32 (c : Int)), .int (i32 (l : Int)), .int (i32 go), .int (i32 (t : Int)), .int (i32 p), .long (i64 0), .retAddr 0, .long (i64 ((t : Int) ^ i)), .retAddr 0, .int (i32 (i : Int)), v11, v12, v13, v14, v15, v16] [] h Q := by
  intro k
  induction k with
  | zero =>
    intro i hk kont
    obtain rfl : i = l := by omega
    refine Ex_iload dX12_frights_76 rfl rfl ?_
    refine Ex_iload_n dX12_frights_78 rfl rfl ?_
    refine Ex_icmp_ge (t := 96) dX12_frights_79 rfl rfl (by omega) (fun c79 => ?_) (fun c79 => absurd c79 (by omega))
    exact kont
  | succ k ih =>
    intro i hk kont
    refine Ex_iload dX12_frights_76 rfl rfl ?_
    refine Ex_iload_n dX12_frights_78 rfl rfl ?_
    refine Ex_icmp_ge (t := 96) dX12_frights_79 rfl rfl (by omega) (fun c79 => absurd c79 (by omega)) (fun c79 => ?_)
    refine Ex_lload dX12_frights_82 rfl rfl ?_
    refine Ex_iload dX12_frights_84 rfl rfl ?_
    refine Ex_i2l dX12_frights_86 rfl (by omega) ?_
    refine Ex_lmul dX12_frights_87 rfl ?_
    refine Ex_lstore (L2 := [_, _, _, _, _, _, _, _, _, _, _, _, _, _, _, _, _]) dX12_frights_88 rfl rfl rfl ?_
    refine Ex_iinc (L2 := [_, _, _, _, _, _, _, _, _, _, _, _, _, _, _, _, _]) dX12_frights_90 rfl rfl rfl ?_
    refine Ex_goto (t := 76) dX12_frights_93 rfl ?_
    have z := ih (i + 1) (by omega) kont
    rw [Int.pow_succ] at z
    exact z
