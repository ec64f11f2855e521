/-! any step of the small machine -/
section RUN
variable {p : Program} {l : Launch} {e : Env} {R : Room} {s : State} {m : MethodId} {args : Array Value} {below : List Frame} {meth : Method} {c : Code} {Q : State → Prop} {D : am_D} {B : Nat} {M : Mth} {cells slots pc : Nat} {L S : List Value} {h : Hp}
theorem am_V0 {a b pc2 : Nat} {L2 S2 : List Value} {h2 : Hp} (k : am_V p l e R s m args below meth c Q D B M (cells + (a - a)) (slots + (b - b)) pc2 L2 S2 h2) : am_V p l e R s m args below meth c Q D B M cells slots pc2 L2 S2 h2 := by
  rw [Nat.sub_self, Nat.sub_self] at k
  exact k
theorem am_V1 {a b n pc2 : Nat} {L2 S2 : List Value} {h2 : Hp} (k : am_V p l e R s m args below meth c Q D B M (cells + (a + 1 - a)) (slots + (b + n - b)) pc2 L2 S2 h2) : am_V p l e R s m args below meth c Q D B M (cells + 1) (slots + n) pc2 L2 S2 h2 := by
  rw [Nat.add_sub_cancel_left, Nat.add_sub_cancel_left] at k
  exact k
theorem am_s_sim {ins : Instr} {len pc2 : Nat} {L2 S2 : List Value} {h2 : Hp} (X : am_Cx D p s m args meth c M) (hdg : decode M.2.2.1 pc = .ok (ins, len)) (hlk : am_lok ins len = true) (hs : am_s B M ins pc L S h = some (pc2, L2, S2, h2)) (hR : cells + (h2.2.1 - h.2.1) ≤ R.cells ∧ slots + (h2.2.2 - h.2.2) ≤ R.slots) (k : am_V p l e R s m args below meth c Q D B M (cells + (h2.2.1 - h.2.1)) (slots + (h2.2.2 - h.2.2)) pc2 L2 S2 h2) : am_V p l e R s m args below meth c Q D B M cells slots pc L S h := by
  cases ins
  case iconst n =>
    obtain rfl := eq_of_beq (show (len == 1) = true from hlk)
    cases hs
    exact am_v_iconst X hdg (am_V0 k)
  case bipush n =>
    obtain rfl := eq_of_beq (show (len == 2) = true from hlk)
    cases hs
    exact am_v_bipush X hdg (am_V0 k)
  case sipush n =>
    obtain rfl := eq_of_beq (show (len == 3) = true from hlk)
    cases hs
    exact am_v_sipush X hdg (am_V0 k)
  case lconst n =>
    obtain rfl := eq_of_beq (show (len == 1) = true from hlk)
    cases hs
    exact am_v_lconst X hdg (am_V0 k)
  case aconst_null =>
    obtain rfl := eq_of_beq (show (len == 1) = true from hlk)
    cases hs
    exact am_v_aconst_null X hdg (am_V0 k)
  case ldc i =>
    obtain rfl := eq_of_beq (show (len == 2) = true from hlk)
    simp only [am_s] at hs
    rw [Option.bind_eq_some_iff] at hs
    obtain ⟨v, hv, hs⟩ := hs
    cases hs
    exact am_v_ldc X hv hdg (am_V0 k)
  case ldc_w i =>
    obtain rfl := eq_of_beq (show (len == 3) = true from hlk)
    simp only [am_s] at hs
    rw [Option.bind_eq_some_iff] at hs
    obtain ⟨v, hv, hs⟩ := hs
    cases hs
    exact am_v_ldc_w X hv hdg (am_V0 k)
  case ldc2_w i =>
    obtain rfl := eq_of_beq (show (len == 3) = true from hlk)
    simp only [am_s] at hs
    rw [Option.bind_eq_some_iff] at hs
    obtain ⟨v, hv, hs⟩ := hs
    cases hs
    exact am_v_ldc2 X hv hdg (am_V0 k)
  case iload_n k0 =>
    obtain rfl := eq_of_beq (show (len == 1) = true from hlk)
    simp only [am_s, am_ldi] at hs
    split at hs
    · rename_i hq; cases hs; exact am_v_iload_n X hq hdg (am_V0 k)
    · cases hs
  case iload i =>
    obtain rfl := eq_of_beq (show (len == 2) = true from hlk)
    simp only [am_s, am_ldi] at hs
    split at hs
    · rename_i hq; cases hs; exact am_v_iload X hq hdg (am_V0 k)
    · cases hs
  case lload_n k0 =>
    obtain rfl := eq_of_beq (show (len == 1) = true from hlk)
    simp only [am_s, am_ldl] at hs
    split at hs
    · rename_i hq; cases hs; exact am_v_lload_n X hq hdg (am_V0 k)
    · cases hs
  case lload i =>
    obtain rfl := eq_of_beq (show (len == 2) = true from hlk)
    simp only [am_s, am_ldl] at hs
    split at hs
    · rename_i hq; cases hs; exact am_v_lload X hq hdg (am_V0 k)
    · cases hs
  case aload_n k0 =>
    obtain rfl := eq_of_beq (show (len == 1) = true from hlk)
    simp only [am_s, am_lda] at hs
    split at hs
    · rename_i hq; cases hs; exact am_v_aload_n X hq hdg (am_V0 k)
    · rename_i hq; cases hs; exact am_v_aload_nN X hq hdg (am_V0 k)
    · cases hs
  case aload i =>
    obtain rfl := eq_of_beq (show (len == 2) = true from hlk)
    simp only [am_s, am_lda] at hs
    split at hs
    · rename_i hq; cases hs; exact am_v_aload X hq hdg (am_V0 k)
    · rename_i hq; cases hs; exact am_v_aloadN X hq hdg (am_V0 k)
    · cases hs
  case istore_n k0 =>
    obtain rfl := eq_of_beq (show (len == 1) = true from hlk)
    simp only [am_s, am_sti] at hs
    split at hs
    · split at hs
      · rename_i hq; cases hs; exact am_v_istore_n X hq hdg (am_V0 k)
      · cases hs
    · cases hs
  case istore i =>
    obtain rfl := eq_of_beq (show (len == 2) = true from hlk)
    simp only [am_s, am_sti] at hs
    split at hs
    · split at hs
      · rename_i hq; cases hs; exact am_v_istore X hq hdg (am_V0 k)
      · cases hs
    · cases hs
  case lstore_n k0 =>
    obtain rfl := eq_of_beq (show (len == 1) = true from hlk)
    simp only [am_s, am_stl] at hs
    split at hs
    · split at hs
      · rename_i hq; cases hs; exact am_v_lstore_n X hq hdg (am_V0 k)
      · cases hs
    · cases hs
  case lstore i =>
    obtain rfl := eq_of_beq (show (len == 2) = true from hlk)
    simp only [am_s, am_stl] at hs
    split at hs
    · split at hs
      · rename_i hq; cases hs; exact am_v_lstore X hq hdg (am_V0 k)
      · cases hs
    · cases hs
  case astore_n k0 =>
    obtain rfl := eq_of_beq (show (len == 1) = true from hlk)
    simp only [am_s, am_sta] at hs
    split at hs
    · split at hs
      · rename_i hq; cases hs; exact am_v_astore_n X hq hdg (am_V0 k)
      · cases hs
    · split at hs
      · rename_i hq; cases hs; exact am_v_astore_nN X hq hdg (am_V0 k)
      · cases hs
    · cases hs
  case astore i =>
    obtain rfl := eq_of_beq (show (len == 2) = true from hlk)
    simp only [am_s, am_sta] at hs
    split at hs
    · split at hs
      · rename_i hq; cases hs; exact am_v_astore X hq hdg (am_V0 k)
      · cases hs
    · split at hs
      · rename_i hq; cases hs; exact am_v_astoreN X hq hdg (am_V0 k)
      · cases hs
    · cases hs
  case iinc i n =>
    obtain rfl := eq_of_beq (show (len == 3) = true from hlk)
    simp only [am_s, am_inc] at hs
    split at hs
    · rename_i hq; cases hs; exact am_v_iinc X hq hdg (am_V0 k)
    · cases hs
  case iadd =>
    obtain rfl := eq_of_beq (show (len == 1) = true from hlk)
    simp only [am_s, am_i2] at hs
    split at hs
    · cases hs; exact am_v_iadd X hdg (am_V0 k)
    · cases hs
  case isub =>
    obtain rfl := eq_of_beq (show (len == 1) = true from hlk)
    simp only [am_s, am_i2] at hs
    split at hs
    · cases hs; exact am_v_isub X hdg (am_V0 k)
    · cases hs
  case imul =>
    obtain rfl := eq_of_beq (show (len == 1) = true from hlk)
    simp only [am_s, am_i2] at hs
    split at hs
    · cases hs; exact am_v_imul X hdg (am_V0 k)
    · cases hs
  case iand =>
    obtain rfl := eq_of_beq (show (len == 1) = true from hlk)
    simp only [am_s, am_i2] at hs
    split at hs
    · cases hs; exact am_v_iand X hdg (am_V0 k)
    · cases hs
  case ior =>
    obtain rfl := eq_of_beq (show (len == 1) = true from hlk)
    simp only [am_s, am_i2] at hs
    split at hs
    · cases hs; exact am_v_ior X hdg (am_V0 k)
    · cases hs
  case ishl =>
    obtain rfl := eq_of_beq (show (len == 1) = true from hlk)
    simp only [am_s, am_i2] at hs
    split at hs
    · cases hs; exact am_v_ishl X hdg (am_V0 k)
    · cases hs
  case ishr =>
    obtain rfl := eq_of_beq (show (len == 1) = true from hlk)
    simp only [am_s, am_i2] at hs
    split at hs
    · cases hs; exact am_v_ishr X hdg (am_V0 k)
    · cases hs
  case iushr =>
    obtain rfl := eq_of_beq (show (len == 1) = true from hlk)
    simp only [am_s, am_i2] at hs
    split at hs
    · cases hs; exact am_v_iushr X hdg (am_V0 k)
    · cases hs
  case ladd =>
    obtain rfl := eq_of_beq (show (len == 1) = true from hlk)
    simp only [am_s, am_l2] at hs
    split at hs
    · cases hs; exact am_v_ladd X hdg (am_V0 k)
    · cases hs
  case lmul =>
    obtain rfl := eq_of_beq (show (len == 1) = true from hlk)
    simp only [am_s, am_l2] at hs
    split at hs
    · cases hs; exact am_v_lmul X hdg (am_V0 k)
    · cases hs
  case lcmp =>
    obtain rfl := eq_of_beq (show (len == 1) = true from hlk)
    simp only [am_s, am_l2] at hs
    split at hs
    · cases hs; exact am_v_lcmp X hdg (am_V0 k)
    · cases hs
  case idiv =>
    obtain rfl := eq_of_beq (show (len == 1) = true from hlk)
    simp only [am_s, am_i2] at hs
    split at hs
    · split at hs
      · cases hs
      · rename_i hq; cases hs; exact am_v_idiv X hq hdg (am_V0 k)
    · cases hs
  case irem =>
    obtain rfl := eq_of_beq (show (len == 1) = true from hlk)
    simp only [am_s, am_i2] at hs
    split at hs
    · split at hs
      · cases hs
      · rename_i hq; cases hs; exact am_v_irem X hq hdg (am_V0 k)
    · cases hs
  case ldiv =>
    obtain rfl := eq_of_beq (show (len == 1) = true from hlk)
    simp only [am_s, am_l2] at hs
    split at hs
    · split at hs
      · cases hs
      · rename_i hq; cases hs; exact am_v_ldiv X hq hdg (am_V0 k)
    · cases hs
  case lrem =>
    obtain rfl := eq_of_beq (show (len == 1) = true from hlk)
    simp only [am_s, am_l2] at hs
    split at hs
    · split at hs
      · cases hs
      · rename_i hq; cases hs; exact am_v_lrem X hq hdg (am_V0 k)
    · cases hs
  case ineg =>
    obtain rfl := eq_of_beq (show (len == 1) = true from hlk)
    simp only [am_s, am_i1] at hs
    split at hs
    · cases hs; exact am_v_ineg X hdg (am_V0 k)
    · cases hs
  case i2l =>
    obtain rfl := eq_of_beq (show (len == 1) = true from hlk)
    simp only [am_s, am_i1] at hs
    split at hs
    · cases hs; exact am_v_i2l X hdg (am_V0 k)
    · cases hs
  case i2b =>
    obtain rfl := eq_of_beq (show (len == 1) = true from hlk)
    simp only [am_s, am_i1] at hs
    split at hs
    · cases hs; exact am_v_i2b X hdg (am_V0 k)
    · cases hs
  case i2s =>
    obtain rfl := eq_of_beq (show (len == 1) = true from hlk)
    simp only [am_s, am_i1] at hs
    split at hs
    · cases hs; exact am_v_i2s X hdg (am_V0 k)
    · cases hs
  case l2i =>
    obtain rfl := eq_of_beq (show (len == 1) = true from hlk)
    simp only [am_s] at hs
    split at hs
    · cases hs; exact am_v_l2i X hdg (am_V0 k)
    · cases hs
  case dup =>
    obtain rfl := eq_of_beq (show (len == 1) = true from hlk)
    simp only [am_s] at hs
    split at hs
    · split at hs
      · rename_i hq; cases hs; exact am_v_dup X hq hdg (am_V0 k)
      · cases hs
    · cases hs
  case pop =>
    obtain rfl := eq_of_beq (show (len == 1) = true from hlk)
    simp only [am_s] at hs
    split at hs
    · split at hs
      · rename_i hq; cases hs; exact am_v_pop X hq hdg (am_V0 k)
      · cases hs
    · cases hs
  case dup2 =>
    obtain rfl := eq_of_beq (show (len == 1) = true from hlk)
    simp only [am_s] at hs
    split at hs
    · split at hs
      · rename_i hq; cases hs; exact am_v_dup2 X hq.1 hq.2 hdg (am_V0 k)
      · cases hs
    · cases hs
  case ifCond cnd off =>
    obtain rfl := eq_of_beq (show (len == 3) = true from hlk)
    simp only [am_s, am_i1] at hs
    split at hs
    rotate_left
    · cases hs
    rename_i x r
    cases cnd
    case eq =>
      simp only [am_jp, am_c2, decide_eq_true_eq] at hs
      split at hs
      · rename_i ht
        split at hs
        · rename_i q
          cases hs
          exact am_v_if_eq X ht hdg (fun _ => am_V0 k) (fun z => absurd q z)
        · rename_i q
          cases hs
          exact am_v_if_eq X ht hdg (fun z => absurd z q) (fun _ => am_V0 k)
      · cases hs
    case ne =>
      simp only [am_jp, am_c2, decide_eq_true_eq] at hs
      split at hs
      · rename_i ht
        split at hs
        · rename_i q
          cases hs
          exact am_v_if_ne X ht hdg (fun _ => am_V0 k) (fun z => absurd z q)
        · rename_i q
          cases hs
          exact am_v_if_ne X ht hdg (fun z => absurd z q) (fun _ => am_V0 k)
      · cases hs
    case lt =>
      simp only [am_jp, am_c2, decide_eq_true_eq] at hs
      split at hs
      · rename_i ht
        split at hs
        · rename_i q
          cases hs
          exact am_v_if_lt X ht hdg (fun _ => am_V0 k) (fun z => absurd q z)
        · rename_i q
          cases hs
          exact am_v_if_lt X ht hdg (fun z => absurd z q) (fun _ => am_V0 k)
      · cases hs
    case ge =>
      simp only [am_jp, am_c2, decide_eq_true_eq] at hs
      split at hs
      · rename_i ht
        split at hs
        · rename_i q
          cases hs
          exact am_v_if_ge X ht hdg (fun _ => am_V0 k) (fun z => absurd q z)
        · rename_i q
          cases hs
          exact am_v_if_ge X ht hdg (fun z => absurd z q) (fun _ => am_V0 k)
      · cases hs
    case gt =>
      simp only [am_jp, am_c2, decide_eq_true_eq] at hs
      split at hs
      · rename_i ht
        split at hs
        · rename_i q
          cases hs
          exact am_v_if_gt X ht hdg (fun _ => am_V0 k) (fun z => absurd q z)
        · rename_i q
          cases hs
          exact am_v_if_gt X ht hdg (fun z => absurd z q) (fun _ => am_V0 k)
      · cases hs
    case le =>
      simp only [am_jp, am_c2, decide_eq_true_eq] at hs
      split at hs
      · rename_i ht
        split at hs
        · rename_i q
          cases hs
          exact am_v_if_le X ht hdg (fun _ => am_V0 k) (fun z => absurd q z)
        · rename_i q
          cases hs
          exact am_v_if_le X ht hdg (fun z => absurd z q) (fun _ => am_V0 k)
      · cases hs
  case if_icmp cnd off =>
    obtain rfl := eq_of_beq (show (len == 3) = true from hlk)
    simp only [am_s, am_i2] at hs
    split at hs
    rotate_left
    · cases hs
    rename_i y x r
    cases cnd
    case eq =>
      simp only [am_jp, am_c2, decide_eq_true_eq] at hs
      split at hs
      · rename_i ht
        split at hs
        · rename_i q
          cases hs
          exact am_v_icmp_eq X ht hdg (fun _ => am_V0 k) (fun z => absurd q z)
        · rename_i q
          cases hs
          exact am_v_icmp_eq X ht hdg (fun z => absurd z q) (fun _ => am_V0 k)
      · cases hs
    case ne =>
      simp only [am_jp, am_c2, decide_eq_true_eq] at hs
      split at hs
      · rename_i ht
        split at hs
        · rename_i q
          cases hs
          exact am_v_icmp_ne X ht hdg (fun _ => am_V0 k) (fun z => absurd z q)
        · rename_i q
          cases hs
          exact am_v_icmp_ne X ht hdg (fun z => absurd z q) (fun _ => am_V0 k)
      · cases hs
    case lt =>
      simp only [am_jp, am_c2, decide_eq_true_eq] at hs
      split at hs
      · rename_i ht
        split at hs
        · rename_i q
          cases hs
          exact am_v_icmp_lt X ht hdg (fun _ => am_V0 k) (fun z => absurd q z)
        · rename_i q
          cases hs
          exact am_v_icmp_lt X ht hdg (fun z => absurd z q) (fun _ => am_V0 k)
      · cases hs
    case ge =>
      simp only [am_jp, am_c2, decide_eq_true_eq] at hs
      split at hs
      · rename_i ht
        split at hs
        · rename_i q
          cases hs
          exact am_v_icmp_ge X ht hdg (fun _ => am_V0 k) (fun z => absurd q z)
        · rename_i q
          cases hs
          exact am_v_icmp_ge X ht hdg (fun z => absurd z q) (fun _ => am_V0 k)
      · cases hs
    case gt =>
      simp only [am_jp, am_c2, decide_eq_true_eq] at hs
      split at hs
      · rename_i ht
        split at hs
        · rename_i q
          cases hs
          exact am_v_icmp_gt X ht hdg (fun _ => am_V0 k) (fun z => absurd q z)
        · rename_i q
          cases hs
          exact am_v_icmp_gt X ht hdg (fun z => absurd z q) (fun _ => am_V0 k)
      · cases hs
    case le =>
      simp only [am_jp, am_c2, decide_eq_true_eq] at hs
      split at hs
      · rename_i ht
        split at hs
        · rename_i q
          cases hs
          exact am_v_icmp_le X ht hdg (fun _ => am_V0 k) (fun z => absurd q z)
        · rename_i q
          cases hs
          exact am_v_icmp_le X ht hdg (fun z => absurd z q) (fun _ => am_V0 k)
      · cases hs
  case goto off =>
    obtain rfl := eq_of_beq (show (len == 3) = true from hlk)
    simp only [am_s, am_jp, if_true] at hs
    split at hs
    · rename_i ht; cases hs; exact am_v_goto X ht hdg (am_V0 k)
    · cases hs
  case ifnull off =>
    obtain rfl := eq_of_beq (show (len == 3) = true from hlk)
    simp only [am_s, am_nul, am_jp, if_true, Bool.not_true, Bool.false_eq_true, if_false] at hs
    split at hs
    · split at hs
      · rename_i ht; cases hs; exact am_v_ifnullN X ht hdg (am_V0 k)
      · cases hs
    · split at hs
      · cases hs; exact am_v_ifnull X hdg (am_V0 k)
      · cases hs
    · cases hs
  case ifnonnull off =>
    obtain rfl := eq_of_beq (show (len == 3) = true from hlk)
    simp only [am_s, am_nul, am_jp, if_true, Bool.not_false, Bool.false_eq_true, if_false] at hs
    split at hs
    · split at hs
      · cases hs; exact am_v_ifnonnullN X hdg (am_V0 k)
      · cases hs
    · split at hs
      · rename_i ht; cases hs; exact am_v_ifnonnull X ht hdg (am_V0 k)
      · cases hs
    · cases hs
  case tableswitch dflt lo hi offs =>
    simp only [am_s, am_i1] at hs
    split at hs
    rotate_left
    · cases hs
    split at hs
    · rename_i ho
      split at hs
      · rename_i ht
        cases hs
        exact am_v_tableOut X ht hdg ho (am_V0 k)
      · cases hs
    · rename_i ho
      split at hs
      · rename_i off hf
        split at hs
        · rename_i ht
          cases hs
          exact am_v_tableIn X ht hdg ho hf (am_V0 k)
        · cases hs
      · cases hs
  case lookupswitch dflt ps =>
    simp only [am_s, am_i1] at hs
    split at hs
    rotate_left
    · cases hs
    split at hs
    · rename_i hq
      cases hs
      exact am_v_lookup X hdg hq.1 hq.2 (am_V0 k)
    · cases hs
  case getfield i =>
    obtain rfl := eq_of_beq (show (len == 3) = true from hlk)
    simp only [am_s, am_getf] at hs
    split at hs
    rotate_left
    · cases hs
    split at hs
    rotate_left
    · cases hs
    rename_i e1 e2
    split at hs
    rotate_left
    · cases hs
    rename_i e3
    split at hs
    rotate_left
    · cases hs
    rename_i e4
    cases hs
    exact am_v_getf X e1 e2 e3 e4 hdg (am_V0 k)
  case putfield i =>
    obtain rfl := eq_of_beq (show (len == 3) = true from hlk)
    simp only [am_s, am_putf] at hs
    split at hs
    rotate_left
    · cases hs
    split at hs
    rotate_left
    · cases hs
    rename_i e1 e2
    split at hs
    rotate_left
    · cases hs
    rename_i e4
    cases hs
    exact am_v_putf X e1 e2 e4.1 e4.2.1 e4.2.2.1 e4.2.2.2.1 e4.2.2.2.2 hdg (am_V0 k)
  case iaload =>
    obtain rfl := eq_of_beq (show (len == 1) = true from hlk)
    simp only [am_s, am_ald] at hs
    split at hs
    rotate_left
    · cases hs
    split at hs
    rotate_left
    · cases hs
    rename_i e1
    split at hs
    rotate_left
    · cases hs
    rename_i e3
    split at hs
    rotate_left
    · cases hs
    rename_i e4
    cases hs
    exact am_v_iald X e1 e3 e4.1 e4.2 hdg (am_V0 k)
  case laload =>
    obtain rfl := eq_of_beq (show (len == 1) = true from hlk)
    simp only [am_s, am_ald] at hs
    split at hs
    rotate_left
    · cases hs
    split at hs
    rotate_left
    · cases hs
    rename_i e1
    split at hs
    rotate_left
    · cases hs
    rename_i e3
    split at hs
    rotate_left
    · cases hs
    rename_i e4
    cases hs
    exact am_v_lald X e1 e3 e4.1 e4.2 hdg (am_V0 k)
  case aaload =>
    obtain rfl := eq_of_beq (show (len == 1) = true from hlk)
    simp only [am_s, am_ald] at hs
    split at hs
    rotate_left
    · cases hs
    split at hs
    rotate_left
    · cases hs
    rename_i e1
    split at hs
    rotate_left
    · cases hs
    rename_i e3
    split at hs
    rotate_left
    · cases hs
    rename_i e4
    cases hs
    exact am_v_aald X e1 e3 e4.1 e4.2 hdg (am_V0 k)
  case iastore =>
    obtain rfl := eq_of_beq (show (len == 1) = true from hlk)
    simp only [am_s, am_iast] at hs
    split at hs
    rotate_left
    · cases hs
    split at hs
    rotate_left
    · cases hs
    rename_i e1
    split at hs
    rotate_left
    · cases hs
    rename_i e4
    cases hs
    exact am_v_iast X e1 e4.1 e4.2.1 e4.2.2.1 e4.2.2.2 hdg (am_V0 k)
  case lastore =>
    obtain rfl := eq_of_beq (show (len == 1) = true from hlk)
    simp only [am_s, am_last] at hs
    split at hs
    rotate_left
    · cases hs
    split at hs
    rotate_left
    · cases hs
    rename_i e1
    split at hs
    rotate_left
    · cases hs
    rename_i e4
    cases hs
    exact am_v_last X e1 e4.1 e4.2.1 e4.2.2.1 e4.2.2.2 hdg (am_V0 k)
  case aastore =>
    obtain rfl := eq_of_beq (show (len == 1) = true from hlk)
    simp only [am_s, am_aast] at hs
    split at hs
    · split at hs
      rotate_left
      · cases hs
      rename_i e1
      split at hs
      rotate_left
      · cases hs
      rename_i e4
      cases hs
      exact am_v_aastN X e1 e4.1 e4.2.1 e4.2.2.1 e4.2.2.2 hdg (am_V0 k)
    · split at hs
      rotate_left
      · cases hs
      rename_i e1 e2
      split at hs
      rotate_left
      · cases hs
      rename_i e4
      cases hs
      exact am_v_aast X e1 e2 e4.1 e4.2.1 e4.2.2.1 e4.2.2.2.1 e4.2.2.2.2 hdg (am_V0 k)
    · cases hs
  case arraylength =>
    obtain rfl := eq_of_beq (show (len == 1) = true from hlk)
    simp only [am_s, am_alen] at hs
    split at hs
    rotate_left
    · cases hs
    split at hs
    rotate_left
    · cases hs
    rename_i e1
    split at hs
    rotate_left
    · cases hs
    rename_i e4
    cases hs
    exact am_v_alen X e1 e4 hdg (am_V0 k)
  case new i =>
    obtain rfl := eq_of_beq (show (len == 3) = true from hlk)
    simp only [am_s] at hs
    rw [Option.bind_eq_some_iff] at hs
    obtain ⟨t, ht, hs⟩ := hs
    cases hs
    have h1 : cells + 1 ≤ R.cells := by have := hR.1; simp only [am_new] at this; omega
    have h2 : slots + am_N t ≤ R.slots := by have := hR.2; simp only [am_new] at this; omega
    exact am_v_new X ht h1 h2 hdg (am_V1 k)
  case newarray a =>
    obtain rfl := eq_of_beq (show (len == 2) = true from hlk)
    simp only [am_s] at hs
    split at hs
    · simp only [am_newa] at hs
      split at hs
      rotate_left
      · cases hs
      rename_i n r
      split at hs
      rotate_left
      · cases hs
      rename_i e4
      cases hs
      have h1 : cells + 1 ≤ R.cells := by have := hR.1; simp only [am_new] at this; omega
      have h2 : slots + n.toNatClampNeg ≤ R.slots := by have := hR.2; simp only [am_new] at this; omega
      exact am_v_newaI X e4.1 e4.2 h1 h2 hdg (am_V1 k)
    · simp only [am_newa] at hs
      split at hs
      rotate_left
      · cases hs
      rename_i n r
      split at hs
      rotate_left
      · cases hs
      rename_i e4
      cases hs
      have h1 : cells + 1 ≤ R.cells := by have := hR.1; simp only [am_new] at this; omega
      have h2 : slots + n.toNatClampNeg ≤ R.slots := by have := hR.2; simp only [am_new] at this; omega
      exact am_v_newaL X e4.1 e4.2 h1 h2 hdg (am_V1 k)
    · cases hs
  case anewarray i =>
    obtain rfl := eq_of_beq (show (len == 3) = true from hlk)
    simp only [am_s] at hs
    rw [Option.bind_eq_some_iff] at hs
    obtain ⟨t, ht, hs⟩ := hs
    simp only [am_newa] at hs
    split at hs
    rotate_left
    · cases hs
    rename_i n r
    split at hs
    rotate_left
    · cases hs
    rename_i e4
    cases hs
    have h1 : cells + 1 ≤ R.cells := by have := hR.1; simp only [am_new] at this; omega
    have h2 : slots + n.toNatClampNeg ≤ R.slots := by have := hR.2; simp only [am_new] at this; omega
    exact am_v_anew X ht e4.1 e4.2 h1 h2 hdg (am_V1 k)
  all_goals exact absurd (show (none : Option (Nat × List Value × List Value × Hp)) = some _ from hs) (fun z => by cases z)
end RUN
