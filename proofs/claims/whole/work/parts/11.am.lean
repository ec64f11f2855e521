/-! THE SMALL MACHINE: the claim's bytecode run over a heap of numbered cells; its rows say what the real machine does (part 12), its runs are what the rest is about -/
def am_fld (o i : Nat) : Option (Nat × List Nat) := ((am_fl o).find? (fun e => e.1 == i)).map (fun e => (e.2.1, e.2.2.1))
def am_inv (o op i : Nat) : Option (Nat × Nat × List Nat × Mth) := ((am_cl o).find? (fun e => e.1 == op && e.2.1 == i)).map (fun e => (e.2.2.1, e.2.2.2.1, e.2.2.2.2.1, e.2.2.2.2.2.1))
def am_nw (o i : Nat) : Option Nat := ((am_nwl o).find? (fun e => e.1 == i)).map (fun e => e.2.1)
def am_an (o i : Nat) : Option Nat := ((am_anl o).find? (fun e => e.1 == i)).map (fun e => e.2.1)
def am_k (o i : Nat) : Option Int32 := ((am_kl o).find? (fun e => e.1 == i)).map (fun e => e.2.1)
def am_k2 (o i : Nat) : Option Int64 := ((am_kl2 o).find? (fun e => e.1 == i)).map (fun e => e.2.1)
def am_ty (t k : Nat) : FieldType := match t with
  | 5 => tyX5 k
  | 7 => tyX7 k
  | 8 => tyX8 k
  | 11 => tyX11 k
  | 12 => tyX12 k
  | _ => tyX1 k
def am_N (t : Nat) : Nat := match t with
  | 5 => 4
  | 7 => 5
  | 8 => 2
  | 11 => 13
  | 12 => 37
  | _ => 8
def am_df (t : Nat) : List Value := (List.range (am_N t)).map (fun k => defaultValue (am_ty t k))
def am_aty (t : Nat) : FieldType := match t with
  | 20 => .int
  | 21 => .long
  | 22 => .object RX7
  | 23 => .object RX5
  | 24 => .object RX1
  | _ => .object RX8
def am_ael (t : Nat) : List Nat := match t with
  | 22 => [7]
  | 23 => [5]
  | 24 => [0, 1, 2, 3, 4, 6, 9, 10]
  | 25 => [8]
  | _ => []
/-- may this method write field k of an object of class t? -/
def am_pf (M : Mth) (t k : Nat) : Bool := match vwCl[t]? with
  | some q => !(q.2.1 k).2.2.2 || (decide (M.2.1.name = "<init>") && decide ((q.2.1 k).1 = am_R M.1))
  | none => false
def am_put (h : Hp) (a : Nat) (x : OC) : Hp := (fun q => if q = a then some x else h.1 q, h.2.1, h.2.2)
def am_new (h : Hp) (x : OC) (n : Nat) : Hp := (fun q => if q = h.2.1 then some x else h.1 q, h.2.1 + 1, h.2.2 + n)
def am_cats (S : List Value) : Nat := (S.map fun v => v.category).sum
def am_sl (vs : List Value) : List Value := vs.flatMap fun v => if v.category = 2 then [v, .retAddr 0] else [v]
def am_loc (vs : List Value) (n : Nat) : List Value := am_sl vs ++ List.replicate (n - (am_sl vs).length) (.retAddr 0)
def am_clr (L : List Value) (i : Nat) : List Value := match i with
  | 0 => L
  | j + 1 => match L[j]? with
    | some w => if w.category = 2 then L.set j (.retAddr 0) else L
    | none => L
def am_st1 (L : List Value) (i : Nat) (v : Value) : List Value := (am_clr L i).set i v
def am_st2 (L : List Value) (i : Nat) (v : Value) : List Value := ((am_clr L i).set i v).set (i + 1) (.retAddr 0)
def am_tg (pc : Nat) (off : Int) : Nat := ((pc : Int) + off).toNat
def am_tok (pc : Nat) (off : Int) : Bool := decide (0 ≤ (pc : Int) + off)
def am_jp (b : Bool) (pc : Nat) (off : Int) (L S : List Value) (h : Hp) : Option (Nat × List Value × List Value × Hp) :=
  if am_tok pc off = true then (if b = true then some (am_tg pc off, L, S, h) else some (pc + 3, L, S, h)) else none
def am_i1 (S : List Value) (k : Int32 → List Value → Option (Nat × List Value × List Value × Hp)) : Option (Nat × List Value × List Value × Hp) := match S with
  | .int x :: r => k x r
  | _ => none
def am_i2 (S : List Value) (k : Int32 → Int32 → List Value → Option (Nat × List Value × List Value × Hp)) : Option (Nat × List Value × List Value × Hp) := match S with
  | .int y :: .int x :: r => k x y r
  | _ => none
def am_l2 (S : List Value) (k : Int64 → Int64 → List Value → Option (Nat × List Value × List Value × Hp)) : Option (Nat × List Value × List Value × Hp) := match S with
  | .long y :: .long x :: r => k x y r
  | _ => none
def am_c2 (c : Jvm.ClassFile.Cond) (x y : Int32) : Bool := match c with
  | .eq => decide (x = y)
  | .ne => decide (¬ x = y)
  | .lt => decide (x < y)
  | .ge => decide (y ≤ x)
  | .gt => decide (y < x)
  | .le => decide (x ≤ y)
def am_ldi (L : List Value) (i q : Nat) (S : List Value) (h : Hp) : Option (Nat × List Value × List Value × Hp) := match L[i]? with
  | some (.int x) => some (q, L, .int x :: S, h)
  | _ => none
def am_ldl (L : List Value) (i q : Nat) (S : List Value) (h : Hp) : Option (Nat × List Value × List Value × Hp) := match L[i]? with
  | some (.long x) => some (q, L, .long x :: S, h)
  | _ => none
def am_lda (L : List Value) (i q : Nat) (S : List Value) (h : Hp) : Option (Nat × List Value × List Value × Hp) := match L[i]? with
  | some (.ref x) => some (q, L, .ref x :: S, h)
  | some .null => some (q, L, .null :: S, h)
  | _ => none
def am_sti (L : List Value) (i q : Nat) (S : List Value) (h : Hp) : Option (Nat × List Value × List Value × Hp) := match S with
  | .int x :: r => if i < L.length then some (q, am_st1 L i (.int x), r, h) else none
  | _ => none
def am_sta (L : List Value) (i q : Nat) (S : List Value) (h : Hp) : Option (Nat × List Value × List Value × Hp) := match S with
  | .ref x :: r => if i < L.length then some (q, am_st1 L i (.ref x), r, h) else none
  | .null :: r => if i < L.length then some (q, am_st1 L i .null, r, h) else none
  | _ => none
def am_stl (L : List Value) (i q : Nat) (S : List Value) (h : Hp) : Option (Nat × List Value × List Value × Hp) := match S with
  | .long x :: r => if i + 1 < L.length then some (q, am_st2 L i (.long x), r, h) else none
  | _ => none
def am_inc (L : List Value) (i : Nat) (n : Int) (q : Nat) (S : List Value) (h : Hp) : Option (Nat × List Value × List Value × Hp) := match L[i]? with
  | some (.int x) => some (q, am_st1 L i (.int (x + Int32.ofInt n)), S, h)
  | _ => none
def am_getf (M : Mth) (i q : Nat) (L S : List Value) (h : Hp) : Option (Nat × List Value × List Value × Hp) := match S with
  | .ref a :: r => match h.1 a, am_fld M.1 i with
    | some (t, fs), some (k, ts) => match fs[k]? with
      | some v => if ts.contains t then some (q, L, v :: r, h) else none
      | none => none
    | _, _ => none
  | _ => none
def am_putf (B : Nat) (M : Mth) (i q : Nat) (L S : List Value) (h : Hp) : Option (Nat × List Value × List Value × Hp) := match S with
  | v :: .ref a :: r => match h.1 a, am_fld M.1 i with
    | some (t, fs), some (k, ts) => if ts.contains t = true ∧ am_pf M t k = true ∧ narrow (am_ty t k) v = v ∧ fits (am_ty t k) v = true ∧ B ≤ a then some (q, L, r, am_put h a (t, fs.set k v)) else none
    | _, _ => none
  | _ => none
/-- an element of an array of kind w (20 ints, 21 longs, 22 and on references) -/
def am_ald (w1 w2 : Nat) (q : Nat) (L S : List Value) (h : Hp) : Option (Nat × List Value × List Value × Hp) := match S with
  | .int j :: .ref a :: r => match h.1 a with
    | some (t, fs) => match fs[j.toNatClampNeg]? with
      | some v => if (w1 ≤ t ∧ t < w2) ∧ ¬ j < 0 then some (q, L, v :: r, h) else none
      | none => none
    | none => none
  | _ => none
def am_iast (B q : Nat) (L S : List Value) (h : Hp) : Option (Nat × List Value × List Value × Hp) := match S with
  | .int x :: .int j :: .ref a :: r => match h.1 a with
    | some (t, fs) => if t = 20 ∧ ¬ j < 0 ∧ j.toNatClampNeg < fs.length ∧ B ≤ a then some (q, L, r, am_put h a (t, fs.set j.toNatClampNeg (.int x))) else none
    | none => none
  | _ => none
def am_last (B q : Nat) (L S : List Value) (h : Hp) : Option (Nat × List Value × List Value × Hp) := match S with
  | .long x :: .int j :: .ref a :: r => match h.1 a with
    | some (t, fs) => if t = 21 ∧ ¬ j < 0 ∧ j.toNatClampNeg < fs.length ∧ B ≤ a then some (q, L, r, am_put h a (t, fs.set j.toNatClampNeg (.long x))) else none
    | none => none
  | _ => none
def am_aast (B q : Nat) (L S : List Value) (h : Hp) : Option (Nat × List Value × List Value × Hp) := match S with
  | .null :: .int j :: .ref a :: r => match h.1 a with
    | some (t, fs) => if (22 ≤ t ∧ t < 26) ∧ ¬ j < 0 ∧ j.toNatClampNeg < fs.length ∧ B ≤ a then some (q, L, r, am_put h a (t, fs.set j.toNatClampNeg .null)) else none
    | none => none
  | .ref v :: .int j :: .ref a :: r => match h.1 a, h.1 v with
    | some (t, fs), some (tv, _) => if (22 ≤ t ∧ t < 26) ∧ (am_ael t).contains tv = true ∧ ¬ j < 0 ∧ j.toNatClampNeg < fs.length ∧ B ≤ a then some (q, L, r, am_put h a (t, fs.set j.toNatClampNeg (.ref v))) else none
    | _, _ => none
  | _ => none
def am_alen (q : Nat) (L S : List Value) (h : Hp) : Option (Nat × List Value × List Value × Hp) := match S with
  | .ref a :: r => match h.1 a with
    | some (t, fs) => if 20 ≤ t ∧ t < 26 then some (q, L, .int (Int32.ofNat fs.length) :: r, h) else none
    | none => none
  | _ => none
def am_newa (t : Nat) (z : Value) (q : Nat) (L S : List Value) (h : Hp) : Option (Nat × List Value × List Value × Hp) := match S with
  | .int n :: r => if ¬ n < 0 ∧ n.toNatClampNeg ≤ 100000 then some (q, L, .ref h.2.1 :: r, am_new h (t, List.replicate n.toNatClampNeg z) n.toNatClampNeg) else none
  | _ => none
def am_nul (b : Bool) (pc : Nat) (off : Int) (L S : List Value) (h : Hp) : Option (Nat × List Value × List Value × Hp) := match S with
  | .null :: r => am_jp b pc off L r h
  | .ref _ :: r => am_jp (!b) pc off L r h
  | _ => none
/-- the instructions that are neither calls nor ends -/
def am_s (B : Nat) (M : Mth) (ins : Instr) (pc : Nat) (L S : List Value) (h : Hp) : Option (Nat × List Value × List Value × Hp) := match ins with
  | .iconst n => some (pc + 1, L, .int (Int32.ofInt n) :: S, h)
  | .bipush n => some (pc + 2, L, .int (Int8.ofInt n).toInt32 :: S, h)
  | .sipush n => some (pc + 3, L, .int (Int16.ofInt n).toInt32 :: S, h)
  | .lconst n => some (pc + 1, L, .long (Int64.ofNat (n : Nat)) :: S, h)
  | .aconst_null => some (pc + 1, L, .null :: S, h)
  | .ldc i => (am_k M.1 i).bind fun v => some (pc + 2, L, .int v :: S, h)
  | .ldc_w i => (am_k M.1 i).bind fun v => some (pc + 3, L, .int v :: S, h)
  | .ldc2_w i => (am_k2 M.1 i).bind fun v => some (pc + 3, L, .long v :: S, h)
  | .iload_n k => am_ldi L k.val (pc + 1) S h
  | .iload i => am_ldi L i (pc + 2) S h
  | .lload_n k => am_ldl L k.val (pc + 1) S h
  | .lload i => am_ldl L i (pc + 2) S h
  | .aload_n k => am_lda L k.val (pc + 1) S h
  | .aload i => am_lda L i (pc + 2) S h
  | .istore_n k => am_sti L k.val (pc + 1) S h
  | .istore i => am_sti L i (pc + 2) S h
  | .lstore_n k => am_stl L k.val (pc + 1) S h
  | .lstore i => am_stl L i (pc + 2) S h
  | .astore_n k => am_sta L k.val (pc + 1) S h
  | .astore i => am_sta L i (pc + 2) S h
  | .iinc i n => am_inc L i n (pc + 3) S h
  | .iadd => am_i2 S fun x y r => some (pc + 1, L, .int (x + y) :: r, h)
  | .isub => am_i2 S fun x y r => some (pc + 1, L, .int (x - y) :: r, h)
  | .imul => am_i2 S fun x y r => some (pc + 1, L, .int (x * y) :: r, h)
  | .iand => am_i2 S fun x y r => some (pc + 1, L, .int (x &&& y) :: r, h)
  | .ior => am_i2 S fun x y r => some (pc + 1, L, .int (x ||| y) :: r, h)
  | .idiv => am_i2 S fun x y r => if y = 0 then none else some (pc + 1, L, .int (x / y) :: r, h)
  | .irem => am_i2 S fun x y r => if y = 0 then none else some (pc + 1, L, .int (x - x / y * y) :: r, h)
  | .ishl => am_i2 S fun x y r => some (pc + 1, L, .int (x <<< (y &&& 31)) :: r, h)
  | .ishr => am_i2 S fun x y r => some (pc + 1, L, .int (x >>> (y &&& 31)) :: r, h)
  | .iushr => am_i2 S fun x y r => some (pc + 1, L, .int (x.toUInt32 >>> (y.toUInt32 &&& Int32.toUInt32 31)).toInt32 :: r, h)
  | .ineg => am_i1 S fun x r => some (pc + 1, L, .int (-x) :: r, h)
  | .ladd => am_l2 S fun x y r => some (pc + 1, L, .long (x + y) :: r, h)
  | .lmul => am_l2 S fun x y r => some (pc + 1, L, .long (x * y) :: r, h)
  | .ldiv => am_l2 S fun x y r => if y = 0 then none else some (pc + 1, L, .long (x / y) :: r, h)
  | .lrem => am_l2 S fun x y r => if y = 0 then none else some (pc + 1, L, .long (x - x / y * y) :: r, h)
  | .lcmp => am_l2 S fun x y r => some (pc + 1, L, .int (lg_cmp x y) :: r, h)
  | .i2l => am_i1 S fun x r => some (pc + 1, L, .long x.toInt64 :: r, h)
  | .i2b => am_i1 S fun x r => some (pc + 1, L, .int x.toInt8.toInt32 :: r, h)
  | .i2s => am_i1 S fun x r => some (pc + 1, L, .int x.toInt16.toInt32 :: r, h)
  | .l2i => match S with
    | .long x :: r => some (pc + 1, L, .int x.toInt32 :: r, h)
    | _ => none
  | .dup => match S with
    | v :: r => if v.category = 1 then some (pc + 1, L, v :: v :: r, h) else none
    | _ => none
  | .pop => match S with
    | v :: r => if v.category = 1 then some (pc + 1, L, r, h) else none
    | _ => none
  | .dup2 => match S with
    | v :: w :: r => if v.category = 1 ∧ w.category = 1 then some (pc + 1, L, v :: w :: v :: w :: r, h) else none
    | _ => none
  | .ifCond c off => am_i1 S fun x r => am_jp (am_c2 c x 0) pc off L r h
  | .if_icmp c off => am_i2 S fun x y r => am_jp (am_c2 c x y) pc off L r h
  | .goto off => am_jp true pc off L S h
  | .ifnull off => am_nul true pc off L S h
  | .ifnonnull off => am_nul false pc off L S h
  | .tableswitch dflt lo hi offs => am_i1 S fun x r =>
      if x.toInt < lo ∨ hi < x.toInt then (if am_tok pc dflt then some (am_tg pc dflt, L, r, h) else none)
      else match offs[(x.toInt - lo).toNat]? with
        | some off => if am_tok pc off then some (am_tg pc off, L, r, h) else none
        | none => none
  | .lookupswitch dflt ps => am_i1 S fun x r =>
      if (ps.toList.zip (ps.toList.drop 1)).all (fun (a, next) => a.1 < next.1) = true ∧ am_tok pc (Op.lookupswitch.offset ps.toList dflt x.toInt) = true then some (am_tg pc (Op.lookupswitch.offset ps.toList dflt x.toInt), L, r, h) else none
  | .getfield i => am_getf M i (pc + 3) L S h
  | .putfield i => am_putf B M i (pc + 3) L S h
  | .iaload => am_ald 20 21 (pc + 1) L S h
  | .laload => am_ald 21 22 (pc + 1) L S h
  | .aaload => am_ald 22 26 (pc + 1) L S h
  | .iastore => am_iast B (pc + 1) L S h
  | .lastore => am_last B (pc + 1) L S h
  | .aastore => am_aast B (pc + 1) L S h
  | .arraylength => am_alen (pc + 1) L S h
  | .new i => (am_nw M.1 i).bind fun t => some (pc + 3, L, .ref h.2.1 :: S, am_new h (t, am_df t) (am_N t))
  | .newarray a => match a with
    | .int => am_newa 20 (.int 0) (pc + 2) L S h
    | .long => am_newa 21 (.long 0) (pc + 2) L S h
    | _ => none
  | .anewarray i => (am_an M.1 i).bind fun t => am_newa t .null (pc + 3) L S h
  | _ => none
def am_lok (ins : Instr) (len : Nat) : Bool := match ins with
  | .bipush _ | .iload _ | .lload _ | .aload _ | .istore _ | .lstore _ | .astore _ | .ldc _ | .newarray _ => len == 2
  | .sipush _ | .iinc _ _ | .getfield _ | .putfield _ | .ifCond _ _ | .if_icmp _ _ | .goto _ | .ifnull _ | .ifnonnull _ | .new _ | .anewarray _ | .ldc_w _ | .ldc2_w _ | .invokevirtual _ | .invokespecial _ | .invokestatic _ => len == 3
  | .tableswitch _ _ _ _ | .lookupswitch _ _ => true
  | _ => len == 1
def am_op (ins : Instr) : Option (Nat × Nat) := match ins with
  | .invokevirtual i => some (0, i)
  | .invokespecial i => some (1, i)
  | .invokestatic i => some (2, i)
  | _ => none
def am_isI (v : Value) : Bool := match v with
  | .int _ => true
  | _ => false
def am_isR (v : Value) : Bool := match v with
  | .null => true
  | .ref _ => true
  | _ => false
/-- the end of a method -/
def am_ret (M : Mth) (ins : Instr) (S : List Value) : Option (Option Value) := match ins with
  | .ireturn => match S, M.2.2.2.2 with
    | [.int v], some ty => if narrow ty (.int v) = .int v then some (some (.int v)) else none
    | _, _ => none
  | .lreturn => match S, M.2.2.2.2 with
    | [.long v], some .long => some (some (.long v))
    | _, _ => none
  | .areturn => match S, M.2.2.2.2 with
    | [v], some (.object _) => if am_isR v then some (some v) else none
    | _, _ => none
  | .return_ => match S, M.2.2.2.2 with
    | [], none => some none
    | _, _ => none
  | _ => none
def am_cpy (f g : List Value) (sp dp n : Nat) : List Value := g.take dp ++ ((f.drop sp).take n ++ g.drop (dp + n))
/-- calls that the kit knows: Object's constructor, Math's max, min, abs, System.arraycopy of ints -/
def am_bi (B mode : Nat) (vs : List Value) (h : Hp) : Option (Option Value × Hp) := match mode with
  | 5 => match vs with
    | [.ref _] => some (none, h)
    | _ => none
  | 6 => match vs with
    | [.int x, .int y] => some (some (.int (if x < y then y else x)), h)
    | _ => none
  | 7 => match vs with
    | [.int x, .int y] => some (some (.int (if y < x then y else x)), h)
    | _ => none
  | 8 => match vs with
    | [.int x] => some (some (.int (if 0 ≤ x then x else 0 - x)), h)
    | _ => none
  | 9 => match vs with
    | [.ref a0, .int sp, .ref a, .int dp, .int n] => match h.1 a0, h.1 a with
      | some (t0, f), some (t1, g) => if t0 = 20 ∧ t1 = 20 ∧ ¬ sp < 0 ∧ ¬ dp < 0 ∧ ¬ n < 0 ∧ sp.toNatClampNeg + n.toNatClampNeg ≤ f.length ∧ dp.toNatClampNeg + n.toNatClampNeg ≤ g.length ∧ f.all am_isI = true ∧ g.all am_isI = true ∧ B ≤ a then
          some (none, am_put h a (20, am_cpy f g sp.toNatClampNeg dp.toNatClampNeg n.toNatClampNeg)) else none
      | _, _ => none
    | _ => none
  | _ => none
/-- the receiver: an object of one of these classes -/
def am_rc (mode : Nat) (ts : List Nat) (vs : List Value) (h : Hp) : Bool := match mode with
  | 2 | 3 | 10 => match vs with
    | .ref b :: _ => match h.1 b with
      | some (t, _) => ts.contains t
      | none => false
    | _ => false
  | 4 => match vs with
    | .ref _ :: _ => true
    | _ => false
  | _ => true
def am (O : Nat → List Value → Hp → Option (Option Value × Hp)) (B : Nat) : Nat → Nat → Mth → Nat → List Value → List Value → Hp → Option (Option Value × Hp)
  | 0, _, _, _, _, _, _ => none
  | F + 1, d, M, pc, L, S, h =>
    match decode M.2.2.1 pc with
    | .error _ => none
    | .ok (ins, len) =>
      if am_lok ins len = true then
        match am_op ins with
        | some (op, i) =>
          match d, am_inv M.1 op i with
          | d + 1, some (mode, n, ts, C) =>
            if n ≤ S.length ∧ am_cats (S.drop n) ≤ 8 ∧ am_rc mode ts (S.take n).reverse h = true ∧ (mode ≤ 4 → (am_sl (S.take n).reverse).length ≤ C.2.2.2.1) ∧ (9 < mode → 20 ≤ d) then
              match (if mode ≤ 4 then am O B F d C 0 (am_loc (S.take n).reverse C.2.2.2.1) [] h else if mode ≤ 9 then am_bi B mode (S.take n).reverse h else O mode (S.take n).reverse h) with
              | some (r, h1) => am O B F (d + 1) M (pc + 3) L (r.toList ++ S.drop n) h1
              | none => none
            else none
          | _, _ => none
        | none =>
          match am_ret M ins S with
          | some r => some (r, h)
          | none => match am_s B M ins pc L S h with
            | some (pc', L', S', h') => am O B F d M pc' L' S' h'
            | none => none
      else none
