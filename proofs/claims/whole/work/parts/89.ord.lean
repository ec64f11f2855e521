/-! BESIDE: the orders as a list, and by number (by hand) -/
def lvs (n : Nat) : Nat → Nat → List Nat → List (List Nat)
  | 0, _, pre => [pre]
  | r + 1, used, pre => (List.range n).flatMap (fun c => if used.testBit c then [] else lvs n r (used + 2 ^ c) (pre ++ [c]))
def nthU (n used : Nat) : Nat → Nat → Nat → Option Nat
  | 0, _, _ => none
  | j + 1, idx, c => if used.testBit c then nthU n used j idx (c + 1) else if idx = 0 then some c else nthU n used j (idx - 1) (c + 1)
def fct : Nat → Nat
  | 0 => 1
  | n + 1 => fct n * (n + 1)
def layO (n : Nat) : Nat → Nat → Nat → Option (List Nat)
  | 0, _, _ => some []
  | j + 1, rest, used => match nthU n used n (rest / fct j) 0 with
    | none => none
    | some c => match layO n j (rest % fct j) (used + 2 ^ c) with
      | none => none
      | some l => some (c :: l)
theorem lvs_lay : ∀ n, n ≤ 6 → (List.range (fct n)).map (fun k => layO n n k 0) = (lvs n n 0 []).map some := by decide +kernel
def sumL (P : Nat → Int) (l : List Nat) : Int := sm (fun i => P (l.getD i 0) * P (l.getD (i + 1) 0)) 0 (l.length - 1)
def stL (P : Nat → Int) (st : BO) (l : List Nat) : BO := if st.1 < sumL P l then (sumL P l, fun i => ((l.getD i 0 : Nat) : Int)) else st
theorem sm_snoc {f : Nat → Int} : ∀ (k c : Nat), sm f c (k + 1) = sm f c k + f (c + k)
  | 0, c => by simp [sm]
  | k + 1, c => by
    have h := sm_snoc (f := f) k (c + 1)
    rw [show sm f c (k + 1 + 1) = f c + sm f (c + 1) (k + 1) from rfl, h, show sm f c (k + 1) = f c + sm f (c + 1) k from rfl, show c + 1 + k = c + (k + 1) by omega]
    omega
theorem sm_cong {f g : Nat → Int} : ∀ (k c : Nat), (∀ i, c ≤ i → i < c + k → f i = g i) → sm f c k = sm g c k
  | 0, _, _ => rfl
  | k + 1, c, h => by
    rw [show sm f c (k + 1) = f c + sm f (c + 1) k from rfl, show sm g c (k + 1) = g c + sm g (c + 1) k from rfl, h c (by omega) (by omega), sm_cong k (c + 1) (fun i h1 h2 => h i (by omega) (by omega))]
theorem getD_app {l : List Nat} {c i : Nat} : (l ++ [c]).getD i 0 = if i < l.length then l.getD i 0 else if i = l.length then c else 0 := by
  rw [List.getD_eq_getElem?_getD, List.getD_eq_getElem?_getD]
  by_cases h : i < l.length
  · rw [if_pos h, List.getElem?_append_left h]
  · rw [if_neg h, List.getElem?_append_right (by omega)]
    by_cases e : i = l.length
    · rw [if_pos e, e, Nat.sub_self]; rfl
    · rw [if_neg e, List.getElem?_eq_none (by simp; omega)]; rfl
theorem sumL_app {P : Nat → Int} {l : List Nat} {c : Nat} : sumL P (l ++ [c]) = sumL P l + psm P (fun i => l.getD i 0) l.length c := by
  unfold sumL psm
  rw [List.length_append, show l.length + [c].length - 1 = l.length from rfl]
  by_cases e : l.length = 0
  · rw [if_pos e, e]; rfl
  · obtain ⟨k, hk⟩ : ∃ k, l.length = k + 1 := ⟨l.length - 1, by omega⟩
    rw [if_neg e, hk, sm_snoc, Nat.add_sub_cancel, Nat.zero_add]
    have h1 : sm (fun i => P ((l ++ [c]).getD i 0) * P ((l ++ [c]).getD (i + 1) 0)) 0 k = sm (fun i => P (l.getD i 0) * P (l.getD (i + 1) 0)) 0 k := sm_cong k 0 (fun i _ h => by
      rw [getD_app, getD_app, if_pos (by omega), if_pos (by omega)])
    rw [h1]
    dsimp only
    rw [getD_app, getD_app, if_pos (by omega), if_neg (by omega), if_pos (by omega)]
theorem fuN_app {l : List Nat} {c : Nat} : fuN (fun i => l.getD i 0) l.length c = fun i => (l ++ [c]).getD i 0 := by
  funext i
  rw [getD_app]
  unfold fuN
  by_cases e : i = l.length
  · rw [if_pos e, if_neg (by omega), if_pos e]
  · rw [if_neg e]
    by_cases h : i < l.length
    · rw [if_pos h]
    · show l.getD i 0 = _
      rw [if_neg h, if_neg e, List.getD_eq_getElem?_getD, List.getElem?_eq_none (by omega)]; rfl
theorem lp_fold {f : Nat → BO → BO} {g : Nat → List (List Nat)} {P : Nat → Int} {n : Nat} (h : ∀ c st, c < n → f c st = (g c).foldl (stL P) st) : ∀ (k c : Nat) (st : BO), c + k = n → lp f c st k = ((List.range' c k).flatMap g).foldl (stL P) st
  | 0, c, st, _ => rfl
  | k + 1, c, st, hk => by
    rw [show lp f c st (k + 1) = lp f (c + 1) (f c st) k from rfl, lp_fold h k (c + 1) _ (by omega), h c st (by omega), List.range'_succ, List.flatMap_cons, List.foldl_append]
/-- the class's search is a fold over the list of orders -/
theorem arr_fold {P : Nat → Int} {n : Nat} : ∀ (r used : Nat) (pre : List Nat) (st : BO), pre.length + r = n → arr P n r used (fun i => pre.getD i 0) (sumL P pre) st = (lvs n r used pre).foldl (stL P) st
  | 0, used, pre, st, hn => rfl
  | r + 1, used, pre, st, hn => by
    have hl : n - (r + 1) = pre.length := by omega
    rw [show arr P n (r + 1) used (fun i => pre.getD i 0) (sumL P pre) st = lp (fun c st => if used.testBit c then st else arr P n r (used + 2 ^ c) (fuN (fun i => pre.getD i 0) (n - (r + 1)) c) (sumL P pre + psm P (fun i => pre.getD i 0) (n - (r + 1)) c) st) 0 st n from rfl]
    rw [lp_fold (g := fun c => if used.testBit c then [] else lvs n r (used + 2 ^ c) (pre ++ [c])) (P := P) (n := n) ?_ n 0 st (by omega)]
    · rw [← List.range_eq_range']; rfl
    · intro c st2 hc
      cases used.testBit c with
      | true => rfl
      | false =>
        rw [if_neg (by decide), if_neg (by decide), hl, fuN_app, ← sumL_app, arr_fold r (used + 2 ^ c) (pre ++ [c]) st2 (by rw [List.length_append]; show pre.length + 1 + r = n; omega)]
