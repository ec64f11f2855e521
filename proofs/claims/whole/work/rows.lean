section
-- ===== PART A: goes FIRST, ahead of the names: the tables' words, and 'selects' of the private methods out of them =====
/-- a private method of a class that the tables say can be made, by its rows of tables_1 -/
def lw_okq (q : MethodName × Nat) : Prop := (q.1.cls ≠ "java/lang/invoke/MethodHandle" ∧ q.1.cls ≠ "java/lang/invoke/VarHandle") ∧ Cond.instantiable q.1.cls q.2 ∈ tables_1 ∧ Cond.privateMethod q.1 ∈ tables_1 ∧ Cond.instanceMethod q.1 ∈ tables_1
theorem lw_p0 : lw_okq (⟨"HandUnderTheChin", "rowOn", "(I)LHandUnderTheChin$Row;"⟩, 13) := ⟨⟨by decide +kernel, by decide +kernel⟩, List.mem_of_getElem? (i := 25) (by decide +kernel), List.mem_of_getElem? (i := 250) (by decide +kernel), List.mem_of_getElem? (i := 251) (by decide +kernel)⟩
theorem lw_p1 : lw_okq (⟨"HandUnderTheChin", "whyNot", "(I)I"⟩, 13) := ⟨⟨by decide +kernel, by decide +kernel⟩, List.mem_of_getElem? (i := 25) (by decide +kernel), List.mem_of_getElem? (i := 260) (by decide +kernel), List.mem_of_getElem? (i := 261) (by decide +kernel)⟩
theorem lw_p2 : lw_okq (⟨"HandUnderTheChin", "isEmpty", "(I)Z"⟩, 13) := ⟨⟨by decide +kernel, by decide +kernel⟩, List.mem_of_getElem? (i := 25) (by decide +kernel), List.mem_of_getElem? (i := 264) (by decide +kernel), List.mem_of_getElem? (i := 265) (by decide +kernel)⟩
theorem lw_p3 : lw_okq (⟨"HandUnderTheChin", "kindOn", "(I)LHandUnderTheChin$Child;"⟩, 13) := ⟨⟨by decide +kernel, by decide +kernel⟩, List.mem_of_getElem? (i := 25) (by decide +kernel), List.mem_of_getElem? (i := 268) (by decide +kernel), List.mem_of_getElem? (i := 269) (by decide +kernel)⟩
theorem lw_p4 : lw_okq (⟨"HandUnderTheChin", "fromNow", "()LHandUnderTheChin$Rail;"⟩, 13) := ⟨⟨by decide +kernel, by decide +kernel⟩, List.mem_of_getElem? (i := 25) (by decide +kernel), List.mem_of_getElem? (i := 280) (by decide +kernel), List.mem_of_getElem? (i := 281) (by decide +kernel)⟩
theorem lw_p5 : lw_okq (⟨"HandUnderTheChin$Rail", "obeysCome", "(III)Z"⟩, 5) := ⟨⟨by decide +kernel, by decide +kernel⟩, List.mem_of_getElem? (i := 151) (by decide +kernel), List.mem_of_getElem? (i := 313) (by decide +kernel), List.mem_of_getElem? (i := 314) (by decide +kernel)⟩
theorem lw_p6 : lw_okq (⟨"HandUnderTheChin$Rail", "obeysMinute", "(II)Z"⟩, 5) := ⟨⟨by decide +kernel, by decide +kernel⟩, List.mem_of_getElem? (i := 151) (by decide +kernel), List.mem_of_getElem? (i := 435) (by decide +kernel), List.mem_of_getElem? (i := 436) (by decide +kernel)⟩
theorem lw_p7 : lw_okq (⟨"HandUnderTheChin$Rail", "shownTo", "(I)I"⟩, 5) := ⟨⟨by decide +kernel, by decide +kernel⟩, List.mem_of_getElem? (i := 151) (by decide +kernel), List.mem_of_getElem? (i := 456) (by decide +kernel), List.mem_of_getElem? (i := 457) (by decide +kernel)⟩
theorem lw_p8 : lw_okq (⟨"HandUnderTheChin$Rail", "passOn", "(II)V"⟩, 5) := ⟨⟨by decide +kernel, by decide +kernel⟩, List.mem_of_getElem? (i := 151) (by decide +kernel), List.mem_of_getElem? (i := 504) (by decide +kernel), List.mem_of_getElem? (i := 505) (by decide +kernel)⟩
theorem lw_p9 : lw_okq (⟨"HandUnderTheChin$Rail", "obeysChange", "(II)Z"⟩, 5) := ⟨⟨by decide +kernel, by decide +kernel⟩, List.mem_of_getElem? (i := 151) (by decide +kernel), List.mem_of_getElem? (i := 520) (by decide +kernel), List.mem_of_getElem? (i := 521) (by decide +kernel)⟩
theorem lw_p10 : lw_okq (⟨"HandUnderTheChin$Rail", "obeysTrust", "(II)Z"⟩, 5) := ⟨⟨by decide +kernel, by decide +kernel⟩, List.mem_of_getElem? (i := 151) (by decide +kernel), List.mem_of_getElem? (i := 532) (by decide +kernel), List.mem_of_getElem? (i := 533) (by decide +kernel)⟩
theorem lw_p11 : lw_okq (⟨"HandUnderTheChin$Rail", "obeysStep", "(II)Z"⟩, 5) := ⟨⟨by decide +kernel, by decide +kernel⟩, List.mem_of_getElem? (i := 151) (by decide +kernel), List.mem_of_getElem? (i := 536) (by decide +kernel), List.mem_of_getElem? (i := 537) (by decide +kernel)⟩
theorem lw_p12 : lw_okq (⟨"HandUnderTheChin", "fewestAlone", "(LHandUnderTheChin$Pupil;I)I"⟩, 13) := ⟨⟨by decide +kernel, by decide +kernel⟩, List.mem_of_getElem? (i := 25) (by decide +kernel), List.mem_of_getElem? (i := 595) (by decide +kernel), List.mem_of_getElem? (i := 596) (by decide +kernel)⟩
theorem lw_p13 : lw_okq (⟨"HandUnderTheChin", "firstWayAlone", "(LHandUnderTheChin$Pupil;I)I"⟩, 13) := ⟨⟨by decide +kernel, by decide +kernel⟩, List.mem_of_getElem? (i := 25) (by decide +kernel), List.mem_of_getElem? (i := 606) (by decide +kernel), List.mem_of_getElem? (i := 607) (by decide +kernel)⟩
theorem lw_p14 : lw_okq (⟨"HandUnderTheChin", "mostFrom", "(II)I"⟩, 13) := ⟨⟨by decide +kernel, by decide +kernel⟩, List.mem_of_getElem? (i := 25) (by decide +kernel), List.mem_of_getElem? (i := 619) (by decide +kernel), List.mem_of_getElem? (i := 620) (by decide +kernel)⟩
theorem lw_p15 : lw_okq (⟨"HandUnderTheChin", "firstMinuteTo", "(II)I"⟩, 13) := ⟨⟨by decide +kernel, by decide +kernel⟩, List.mem_of_getElem? (i := 25) (by decide +kernel), List.mem_of_getElem? (i := 630) (by decide +kernel), List.mem_of_getElem? (i := 631) (by decide +kernel)⟩
def lw_privs_1 : List (MethodName × Nat) := [(⟨"HandUnderTheChin", "rowOn", "(I)LHandUnderTheChin$Row;"⟩, 13), (⟨"HandUnderTheChin", "whyNot", "(I)I"⟩, 13), (⟨"HandUnderTheChin", "isEmpty", "(I)Z"⟩, 13), (⟨"HandUnderTheChin", "kindOn", "(I)LHandUnderTheChin$Child;"⟩, 13), (⟨"HandUnderTheChin", "fromNow", "()LHandUnderTheChin$Rail;"⟩, 13), (⟨"HandUnderTheChin$Rail", "obeysCome", "(III)Z"⟩, 5), (⟨"HandUnderTheChin$Rail", "obeysMinute", "(II)Z"⟩, 5), (⟨"HandUnderTheChin$Rail", "shownTo", "(I)I"⟩, 5), (⟨"HandUnderTheChin$Rail", "passOn", "(II)V"⟩, 5), (⟨"HandUnderTheChin$Rail", "obeysChange", "(II)Z"⟩, 5), (⟨"HandUnderTheChin$Rail", "obeysTrust", "(II)Z"⟩, 5), (⟨"HandUnderTheChin$Rail", "obeysStep", "(II)Z"⟩, 5), (⟨"HandUnderTheChin", "fewestAlone", "(LHandUnderTheChin$Pupil;I)I"⟩, 13), (⟨"HandUnderTheChin", "firstWayAlone", "(LHandUnderTheChin$Pupil;I)I"⟩, 13), (⟨"HandUnderTheChin", "mostFrom", "(II)I"⟩, 13), (⟨"HandUnderTheChin", "firstMinuteTo", "(II)I"⟩, 13)]
theorem lw_r1 : ∀ q ∈ lw_privs_1, lw_okq q := List.forall_mem_cons.mpr ⟨lw_p0, List.forall_mem_cons.mpr ⟨lw_p1, List.forall_mem_cons.mpr ⟨lw_p2, List.forall_mem_cons.mpr ⟨lw_p3, List.forall_mem_cons.mpr ⟨lw_p4, List.forall_mem_cons.mpr ⟨lw_p5, List.forall_mem_cons.mpr ⟨lw_p6, List.forall_mem_cons.mpr ⟨lw_p7, List.forall_mem_cons.mpr ⟨lw_p8, List.forall_mem_cons.mpr ⟨lw_p9, List.forall_mem_cons.mpr ⟨lw_p10, List.forall_mem_cons.mpr ⟨lw_p11, List.forall_mem_cons.mpr ⟨lw_p12, List.forall_mem_cons.mpr ⟨lw_p13, List.forall_mem_cons.mpr ⟨lw_p14, List.forall_mem_cons.mpr ⟨lw_p15, fun _ h => absurd h List.not_mem_nil⟩⟩⟩⟩⟩⟩⟩⟩⟩⟩⟩⟩⟩⟩⟩⟩
theorem lw_p16 : lw_okq (⟨"HandUnderTheChin", "arrange", "(III)V"⟩, 13) := ⟨⟨by decide +kernel, by decide +kernel⟩, List.mem_of_getElem? (i := 25) (by decide +kernel), List.mem_of_getElem? (i := 660) (by decide +kernel), List.mem_of_getElem? (i := 661) (by decide +kernel)⟩
theorem lw_p17 : lw_okq (⟨"HandUnderTheChin", "passesOf", "(I)I"⟩, 13) := ⟨⟨by decide +kernel, by decide +kernel⟩, List.mem_of_getElem? (i := 25) (by decide +kernel), List.mem_of_getElem? (i := 667) (by decide +kernel), List.mem_of_getElem? (i := 668) (by decide +kernel)⟩
theorem lw_p18 : lw_okq (⟨"java/lang/Throwable", "fillInStackTrace", "(I)Ljava/lang/Throwable;"⟩, 6) := ⟨⟨by decide +kernel, by decide +kernel⟩, List.mem_of_getElem? (i := 890) (by decide +kernel), List.mem_of_getElem? (i := 888) (by decide +kernel), List.mem_of_getElem? (i := 889) (by decide +kernel)⟩
theorem lw_p19 : lw_okq (⟨"HandUnderTheChinModel", "wrongRow", "(I)I"⟩, 37) := ⟨⟨by decide +kernel, by decide +kernel⟩, List.mem_of_getElem? (i := 979) (by decide +kernel), List.mem_of_getElem? (i := 1106) (by decide +kernel), List.mem_of_getElem? (i := 1107) (by decide +kernel)⟩
theorem lw_p20 : lw_okq (⟨"HandUnderTheChinModel", "readStatement", "()V"⟩, 37) := ⟨⟨by decide +kernel, by decide +kernel⟩, List.mem_of_getElem? (i := 979) (by decide +kernel), List.mem_of_getElem? (i := 1114) (by decide +kernel), List.mem_of_getElem? (i := 1115) (by decide +kernel)⟩
theorem lw_p21 : lw_okq (⟨"HandUnderTheChinModel", "here", "()I"⟩, 37) := ⟨⟨by decide +kernel, by decide +kernel⟩, List.mem_of_getElem? (i := 979) (by decide +kernel), List.mem_of_getElem? (i := 1118) (by decide +kernel), List.mem_of_getElem? (i := 1119) (by decide +kernel)⟩
theorem lw_p22 : lw_okq (⟨"HandUnderTheChinModel", "readNumbers", "(II)V"⟩, 37) := ⟨⟨by decide +kernel, by decide +kernel⟩, List.mem_of_getElem? (i := 979) (by decide +kernel), List.mem_of_getElem? (i := 1125) (by decide +kernel), List.mem_of_getElem? (i := 1126) (by decide +kernel)⟩
theorem lw_p23 : lw_okq (⟨"HandUnderTheChinModel", "readDigits", "(I)I"⟩, 37) := ⟨⟨by decide +kernel, by decide +kernel⟩, List.mem_of_getElem? (i := 979) (by decide +kernel), List.mem_of_getElem? (i := 1129) (by decide +kernel), List.mem_of_getElem? (i := 1130) (by decide +kernel)⟩
theorem lw_p24 : lw_okq (⟨"HandUnderTheChinModel", "open", "()V"⟩, 37) := ⟨⟨by decide +kernel, by decide +kernel⟩, List.mem_of_getElem? (i := 979) (by decide +kernel), List.mem_of_getElem? (i := 1135) (by decide +kernel), List.mem_of_getElem? (i := 1136) (by decide +kernel)⟩
theorem lw_p25 : lw_okq (⟨"HandUnderTheChinModel", "carryAll", "([IZ)V"⟩, 37) := ⟨⟨by decide +kernel, by decide +kernel⟩, List.mem_of_getElem? (i := 979) (by decide +kernel), List.mem_of_getElem? (i := 1139) (by decide +kernel), List.mem_of_getElem? (i := 1140) (by decide +kernel)⟩
theorem lw_p26 : lw_okq (⟨"HandUnderTheChinModel", "carry", "(I)I"⟩, 37) := ⟨⟨by decide +kernel, by decide +kernel⟩, List.mem_of_getElem? (i := 979) (by decide +kernel), List.mem_of_getElem? (i := 1143) (by decide +kernel), List.mem_of_getElem? (i := 1144) (by decide +kernel)⟩
theorem lw_p27 : lw_okq (⟨"HandUnderTheChinModel", "comesTold", "(I)Z"⟩, 37) := ⟨⟨by decide +kernel, by decide +kernel⟩, List.mem_of_getElem? (i := 979) (by decide +kernel), List.mem_of_getElem? (i := 1147) (by decide +kernel), List.mem_of_getElem? (i := 1148) (by decide +kernel)⟩
theorem lw_p28 : lw_okq (⟨"HandUnderTheChinModel", "childComes", "(III)Z"⟩, 37) := ⟨⟨by decide +kernel, by decide +kernel⟩, List.mem_of_getElem? (i := 979) (by decide +kernel), List.mem_of_getElem? (i := 1151) (by decide +kernel), List.mem_of_getElem? (i := 1152) (by decide +kernel)⟩
theorem lw_p29 : lw_okq (⟨"HandUnderTheChinModel", "minuteComes", "(II)Z"⟩, 37) := ⟨⟨by decide +kernel, by decide +kernel⟩, List.mem_of_getElem? (i := 979) (by decide +kernel), List.mem_of_getElem? (i := 1155) (by decide +kernel), List.mem_of_getElem? (i := 1156) (by decide +kernel)⟩
theorem lw_p30 : lw_okq (⟨"HandUnderTheChinModel", "isChild", "(I)Z"⟩, 37) := ⟨⟨by decide +kernel, by decide +kernel⟩, List.mem_of_getElem? (i := 979) (by decide +kernel), List.mem_of_getElem? (i := 1159) (by decide +kernel), List.mem_of_getElem? (i := 1160) (by decide +kernel)⟩
theorem lw_p31 : lw_okq (⟨"HandUnderTheChinModel", "goMinute", "(II)V"⟩, 37) := ⟨⟨by decide +kernel, by decide +kernel⟩, List.mem_of_getElem? (i := 979) (by decide +kernel), List.mem_of_getElem? (i := 1163) (by decide +kernel), List.mem_of_getElem? (i := 1164) (by decide +kernel)⟩
def lw_privs_2 : List (MethodName × Nat) := [(⟨"HandUnderTheChin", "arrange", "(III)V"⟩, 13), (⟨"HandUnderTheChin", "passesOf", "(I)I"⟩, 13), (⟨"java/lang/Throwable", "fillInStackTrace", "(I)Ljava/lang/Throwable;"⟩, 6), (⟨"HandUnderTheChinModel", "wrongRow", "(I)I"⟩, 37), (⟨"HandUnderTheChinModel", "readStatement", "()V"⟩, 37), (⟨"HandUnderTheChinModel", "here", "()I"⟩, 37), (⟨"HandUnderTheChinModel", "readNumbers", "(II)V"⟩, 37), (⟨"HandUnderTheChinModel", "readDigits", "(I)I"⟩, 37), (⟨"HandUnderTheChinModel", "open", "()V"⟩, 37), (⟨"HandUnderTheChinModel", "carryAll", "([IZ)V"⟩, 37), (⟨"HandUnderTheChinModel", "carry", "(I)I"⟩, 37), (⟨"HandUnderTheChinModel", "comesTold", "(I)Z"⟩, 37), (⟨"HandUnderTheChinModel", "childComes", "(III)Z"⟩, 37), (⟨"HandUnderTheChinModel", "minuteComes", "(II)Z"⟩, 37), (⟨"HandUnderTheChinModel", "isChild", "(I)Z"⟩, 37), (⟨"HandUnderTheChinModel", "goMinute", "(II)V"⟩, 37)]
theorem lw_r2 : ∀ q ∈ lw_privs_2, lw_okq q := List.forall_mem_cons.mpr ⟨lw_p16, List.forall_mem_cons.mpr ⟨lw_p17, List.forall_mem_cons.mpr ⟨lw_p18, List.forall_mem_cons.mpr ⟨lw_p19, List.forall_mem_cons.mpr ⟨lw_p20, List.forall_mem_cons.mpr ⟨lw_p21, List.forall_mem_cons.mpr ⟨lw_p22, List.forall_mem_cons.mpr ⟨lw_p23, List.forall_mem_cons.mpr ⟨lw_p24, List.forall_mem_cons.mpr ⟨lw_p25, List.forall_mem_cons.mpr ⟨lw_p26, List.forall_mem_cons.mpr ⟨lw_p27, List.forall_mem_cons.mpr ⟨lw_p28, List.forall_mem_cons.mpr ⟨lw_p29, List.forall_mem_cons.mpr ⟨lw_p30, List.forall_mem_cons.mpr ⟨lw_p31, fun _ h => absurd h List.not_mem_nil⟩⟩⟩⟩⟩⟩⟩⟩⟩⟩⟩⟩⟩⟩⟩⟩
theorem lw_p32 : lw_okq (⟨"HandUnderTheChinModel", "holdsOf", "(I)I"⟩, 37) := ⟨⟨by decide +kernel, by decide +kernel⟩, List.mem_of_getElem? (i := 979) (by decide +kernel), List.mem_of_getElem? (i := 1167) (by decide +kernel), List.mem_of_getElem? (i := 1168) (by decide +kernel)⟩
theorem lw_p33 : lw_okq (⟨"HandUnderTheChinModel", "gains", "(II)V"⟩, 37) := ⟨⟨by decide +kernel, by decide +kernel⟩, List.mem_of_getElem? (i := 979) (by decide +kernel), List.mem_of_getElem? (i := 1174) (by decide +kernel), List.mem_of_getElem? (i := 1175) (by decide +kernel)⟩
theorem lw_p34 : lw_okq (⟨"HandUnderTheChinModel", "needsOf", "(I)I"⟩, 37) := ⟨⟨by decide +kernel, by decide +kernel⟩, List.mem_of_getElem? (i := 979) (by decide +kernel), List.mem_of_getElem? (i := 1181) (by decide +kernel), List.mem_of_getElem? (i := 1182) (by decide +kernel)⟩
theorem lw_p35 : lw_okq (⟨"HandUnderTheChinModel", "needsAt", "(II)I"⟩, 37) := ⟨⟨by decide +kernel, by decide +kernel⟩, List.mem_of_getElem? (i := 979) (by decide +kernel), List.mem_of_getElem? (i := 1185) (by decide +kernel), List.mem_of_getElem? (i := 1186) (by decide +kernel)⟩
theorem lw_p36 : lw_okq (⟨"HandUnderTheChinModel", "letGo", "(I)V"⟩, 37) := ⟨⟨by decide +kernel, by decide +kernel⟩, List.mem_of_getElem? (i := 979) (by decide +kernel), List.mem_of_getElem? (i := 1189) (by decide +kernel), List.mem_of_getElem? (i := 1190) (by decide +kernel)⟩
theorem lw_p37 : lw_okq (⟨"HandUnderTheChinModel", "passesOf", "(I)I"⟩, 37) := ⟨⟨by decide +kernel, by decide +kernel⟩, List.mem_of_getElem? (i := 979) (by decide +kernel), List.mem_of_getElem? (i := 1193) (by decide +kernel), List.mem_of_getElem? (i := 1194) (by decide +kernel)⟩
theorem lw_p38 : lw_okq (⟨"HandUnderTheChinModel", "isReady", "(I)Z"⟩, 37) := ⟨⟨by decide +kernel, by decide +kernel⟩, List.mem_of_getElem? (i := 979) (by decide +kernel), List.mem_of_getElem? (i := 1197) (by decide +kernel), List.mem_of_getElem? (i := 1198) (by decide +kernel)⟩
theorem lw_p39 : lw_okq (⟨"HandUnderTheChinModel", "frightOf", "(I)I"⟩, 37) := ⟨⟨by decide +kernel, by decide +kernel⟩, List.mem_of_getElem? (i := 979) (by decide +kernel), List.mem_of_getElem? (i := 1201) (by decide +kernel), List.mem_of_getElem? (i := 1202) (by decide +kernel)⟩
theorem lw_p40 : lw_okq (⟨"HandUnderTheChinModel", "show", "(I)V"⟩, 37) := ⟨⟨by decide +kernel, by decide +kernel⟩, List.mem_of_getElem? (i := 979) (by decide +kernel), List.mem_of_getElem? (i := 1205) (by decide +kernel), List.mem_of_getElem? (i := 1206) (by decide +kernel)⟩
theorem lw_p41 : lw_okq (⟨"HandUnderTheChinModel", "colder", "(I)V"⟩, 37) := ⟨⟨by decide +kernel, by decide +kernel⟩, List.mem_of_getElem? (i := 979) (by decide +kernel), List.mem_of_getElem? (i := 1209) (by decide +kernel), List.mem_of_getElem? (i := 1210) (by decide +kernel)⟩
theorem lw_p42 : lw_okq (⟨"HandUnderTheChinModel", "bearsOf", "(I)I"⟩, 37) := ⟨⟨by decide +kernel, by decide +kernel⟩, List.mem_of_getElem? (i := 979) (by decide +kernel), List.mem_of_getElem? (i := 1213) (by decide +kernel), List.mem_of_getElem? (i := 1214) (by decide +kernel)⟩
theorem lw_p43 : lw_okq (⟨"HandUnderTheChinModel", "goBreak", "(I)V"⟩, 37) := ⟨⟨by decide +kernel, by decide +kernel⟩, List.mem_of_getElem? (i := 979) (by decide +kernel), List.mem_of_getElem? (i := 1217) (by decide +kernel), List.mem_of_getElem? (i := 1218) (by decide +kernel)⟩
theorem lw_p44 : lw_okq (⟨"HandUnderTheChinModel", "swapAll", "(II)V"⟩, 37) := ⟨⟨by decide +kernel, by decide +kernel⟩, List.mem_of_getElem? (i := 979) (by decide +kernel), List.mem_of_getElem? (i := 1221) (by decide +kernel), List.mem_of_getElem? (i := 1222) (by decide +kernel)⟩
theorem lw_p45 : lw_okq (⟨"HandUnderTheChinModel", "swapNumbers", "([III)V"⟩, 37) := ⟨⟨by decide +kernel, by decide +kernel⟩, List.mem_of_getElem? (i := 979) (by decide +kernel), List.mem_of_getElem? (i := 1225) (by decide +kernel), List.mem_of_getElem? (i := 1226) (by decide +kernel)⟩
theorem lw_p46 : lw_okq (⟨"HandUnderTheChinModel", "close", "()V"⟩, 37) := ⟨⟨by decide +kernel, by decide +kernel⟩, List.mem_of_getElem? (i := 979) (by decide +kernel), List.mem_of_getElem? (i := 1229) (by decide +kernel), List.mem_of_getElem? (i := 1230) (by decide +kernel)⟩
theorem lw_p47 : lw_okq (⟨"HandUnderTheChinModel", "wrongKept", "(I)I"⟩, 37) := ⟨⟨by decide +kernel, by decide +kernel⟩, List.mem_of_getElem? (i := 979) (by decide +kernel), List.mem_of_getElem? (i := 1250) (by decide +kernel), List.mem_of_getElem? (i := 1251) (by decide +kernel)⟩
def lw_privs_3 : List (MethodName × Nat) := [(⟨"HandUnderTheChinModel", "holdsOf", "(I)I"⟩, 37), (⟨"HandUnderTheChinModel", "gains", "(II)V"⟩, 37), (⟨"HandUnderTheChinModel", "needsOf", "(I)I"⟩, 37), (⟨"HandUnderTheChinModel", "needsAt", "(II)I"⟩, 37), (⟨"HandUnderTheChinModel", "letGo", "(I)V"⟩, 37), (⟨"HandUnderTheChinModel", "passesOf", "(I)I"⟩, 37), (⟨"HandUnderTheChinModel", "isReady", "(I)Z"⟩, 37), (⟨"HandUnderTheChinModel", "frightOf", "(I)I"⟩, 37), (⟨"HandUnderTheChinModel", "show", "(I)V"⟩, 37), (⟨"HandUnderTheChinModel", "colder", "(I)V"⟩, 37), (⟨"HandUnderTheChinModel", "bearsOf", "(I)I"⟩, 37), (⟨"HandUnderTheChinModel", "goBreak", "(I)V"⟩, 37), (⟨"HandUnderTheChinModel", "swapAll", "(II)V"⟩, 37), (⟨"HandUnderTheChinModel", "swapNumbers", "([III)V"⟩, 37), (⟨"HandUnderTheChinModel", "close", "()V"⟩, 37), (⟨"HandUnderTheChinModel", "wrongKept", "(I)I"⟩, 37)]
theorem lw_r3 : ∀ q ∈ lw_privs_3, lw_okq q := List.forall_mem_cons.mpr ⟨lw_p32, List.forall_mem_cons.mpr ⟨lw_p33, List.forall_mem_cons.mpr ⟨lw_p34, List.forall_mem_cons.mpr ⟨lw_p35, List.forall_mem_cons.mpr ⟨lw_p36, List.forall_mem_cons.mpr ⟨lw_p37, List.forall_mem_cons.mpr ⟨lw_p38, List.forall_mem_cons.mpr ⟨lw_p39, List.forall_mem_cons.mpr ⟨lw_p40, List.forall_mem_cons.mpr ⟨lw_p41, List.forall_mem_cons.mpr ⟨lw_p42, List.forall_mem_cons.mpr ⟨lw_p43, List.forall_mem_cons.mpr ⟨lw_p44, List.forall_mem_cons.mpr ⟨lw_p45, List.forall_mem_cons.mpr ⟨lw_p46, List.forall_mem_cons.mpr ⟨lw_p47, fun _ h => absurd h List.not_mem_nil⟩⟩⟩⟩⟩⟩⟩⟩⟩⟩⟩⟩⟩⟩⟩⟩
theorem lw_p48 : lw_okq (⟨"HandUnderTheChinModel", "allSteps", "()I"⟩, 37) := ⟨⟨by decide +kernel, by decide +kernel⟩, List.mem_of_getElem? (i := 979) (by decide +kernel), List.mem_of_getElem? (i := 1272) (by decide +kernel), List.mem_of_getElem? (i := 1273) (by decide +kernel)⟩
theorem lw_p49 : lw_okq (⟨"HandUnderTheChinModel", "readyBits", "()I"⟩, 37) := ⟨⟨by decide +kernel, by decide +kernel⟩, List.mem_of_getElem? (i := 979) (by decide +kernel), List.mem_of_getElem? (i := 1280) (by decide +kernel), List.mem_of_getElem? (i := 1281) (by decide +kernel)⟩
theorem lw_p50 : lw_okq (⟨"HandUnderTheChinModel", "layFewest", "(II)V"⟩, 37) := ⟨⟨by decide +kernel, by decide +kernel⟩, List.mem_of_getElem? (i := 979) (by decide +kernel), List.mem_of_getElem? (i := 1288) (by decide +kernel), List.mem_of_getElem? (i := 1289) (by decide +kernel)⟩
theorem lw_p51 : lw_okq (⟨"HandUnderTheChinModel", "behindWay", "(III)I"⟩, 37) := ⟨⟨by decide +kernel, by decide +kernel⟩, List.mem_of_getElem? (i := 979) (by decide +kernel), List.mem_of_getElem? (i := 1292) (by decide +kernel), List.mem_of_getElem? (i := 1293) (by decide +kernel)⟩
theorem lw_p52 : lw_okq (⟨"HandUnderTheChinModel", "aloneFrom", "(II)I"⟩, 37) := ⟨⟨by decide +kernel, by decide +kernel⟩, List.mem_of_getElem? (i := 979) (by decide +kernel), List.mem_of_getElem? (i := 1296) (by decide +kernel), List.mem_of_getElem? (i := 1297) (by decide +kernel)⟩
theorem lw_p53 : lw_okq (⟨"HandUnderTheChinModel", "stateOf", "(I)I"⟩, 37) := ⟨⟨by decide +kernel, by decide +kernel⟩, List.mem_of_getElem? (i := 979) (by decide +kernel), List.mem_of_getElem? (i := 1300) (by decide +kernel), List.mem_of_getElem? (i := 1301) (by decide +kernel)⟩
theorem lw_p54 : lw_okq (⟨"HandUnderTheChinModel", "layMost", "(I)V"⟩, 37) := ⟨⟨by decide +kernel, by decide +kernel⟩, List.mem_of_getElem? (i := 979) (by decide +kernel), List.mem_of_getElem? (i := 1312) (by decide +kernel), List.mem_of_getElem? (i := 1313) (by decide +kernel)⟩
theorem lw_p55 : lw_okq (⟨"HandUnderTheChinModel", "keepStage", "(I)V"⟩, 37) := ⟨⟨by decide +kernel, by decide +kernel⟩, List.mem_of_getElem? (i := 979) (by decide +kernel), List.mem_of_getElem? (i := 1316) (by decide +kernel), List.mem_of_getElem? (i := 1317) (by decide +kernel)⟩
theorem lw_p56 : lw_okq (⟨"HandUnderTheChinModel", "nextChoice", "(I)I"⟩, 37) := ⟨⟨by decide +kernel, by decide +kernel⟩, List.mem_of_getElem? (i := 979) (by decide +kernel), List.mem_of_getElem? (i := 1320) (by decide +kernel), List.mem_of_getElem? (i := 1321) (by decide +kernel)⟩
theorem lw_p57 : lw_okq (⟨"HandUnderTheChinModel", "toStage", "(I)V"⟩, 37) := ⟨⟨by decide +kernel, by decide +kernel⟩, List.mem_of_getElem? (i := 979) (by decide +kernel), List.mem_of_getElem? (i := 1324) (by decide +kernel), List.mem_of_getElem? (i := 1325) (by decide +kernel)⟩
theorem lw_p58 : lw_okq (⟨"HandUnderTheChinModel", "nextTurn", "()I"⟩, 37) := ⟨⟨by decide +kernel, by decide +kernel⟩, List.mem_of_getElem? (i := 979) (by decide +kernel), List.mem_of_getElem? (i := 1333) (by decide +kernel), List.mem_of_getElem? (i := 1334) (by decide +kernel)⟩
theorem lw_p59 : lw_okq (⟨"HandUnderTheChinModel", "swimBits", "()I"⟩, 37) := ⟨⟨by decide +kernel, by decide +kernel⟩, List.mem_of_getElem? (i := 979) (by decide +kernel), List.mem_of_getElem? (i := 1337) (by decide +kernel), List.mem_of_getElem? (i := 1338) (by decide +kernel)⟩
theorem lw_p60 : lw_okq (⟨"HandUnderTheChinModel", "layOrder", "(II)V"⟩, 37) := ⟨⟨by decide +kernel, by decide +kernel⟩, List.mem_of_getElem? (i := 979) (by decide +kernel), List.mem_of_getElem? (i := 1356) (by decide +kernel), List.mem_of_getElem? (i := 1357) (by decide +kernel)⟩
theorem lw_p61 : lw_okq (⟨"HandUnderTheChinModel", "daresOf", "(III)I"⟩, 37) := ⟨⟨by decide +kernel, by decide +kernel⟩, List.mem_of_getElem? (i := 979) (by decide +kernel), List.mem_of_getElem? (i := 1396) (by decide +kernel), List.mem_of_getElem? (i := 1397) (by decide +kernel)⟩
theorem lw_p62 : lw_okq (⟨"HandUnderTheChinModel", "skipped", "(I)J"⟩, 37) := ⟨⟨by decide +kernel, by decide +kernel⟩, List.mem_of_getElem? (i := 979) (by decide +kernel), List.mem_of_getElem? (i := 1430) (by decide +kernel), List.mem_of_getElem? (i := 1431) (by decide +kernel)⟩
theorem lw_p63 : lw_okq (⟨"HandUnderTheChinModel", "drawBelow", "(I)I"⟩, 37) := ⟨⟨by decide +kernel, by decide +kernel⟩, List.mem_of_getElem? (i := 979) (by decide +kernel), List.mem_of_getElem? (i := 1441) (by decide +kernel), List.mem_of_getElem? (i := 1442) (by decide +kernel)⟩
def lw_privs_4 : List (MethodName × Nat) := [(⟨"HandUnderTheChinModel", "allSteps", "()I"⟩, 37), (⟨"HandUnderTheChinModel", "readyBits", "()I"⟩, 37), (⟨"HandUnderTheChinModel", "layFewest", "(II)V"⟩, 37), (⟨"HandUnderTheChinModel", "behindWay", "(III)I"⟩, 37), (⟨"HandUnderTheChinModel", "aloneFrom", "(II)I"⟩, 37), (⟨"HandUnderTheChinModel", "stateOf", "(I)I"⟩, 37), (⟨"HandUnderTheChinModel", "layMost", "(I)V"⟩, 37), (⟨"HandUnderTheChinModel", "keepStage", "(I)V"⟩, 37), (⟨"HandUnderTheChinModel", "nextChoice", "(I)I"⟩, 37), (⟨"HandUnderTheChinModel", "toStage", "(I)V"⟩, 37), (⟨"HandUnderTheChinModel", "nextTurn", "()I"⟩, 37), (⟨"HandUnderTheChinModel", "swimBits", "()I"⟩, 37), (⟨"HandUnderTheChinModel", "layOrder", "(II)V"⟩, 37), (⟨"HandUnderTheChinModel", "daresOf", "(III)I"⟩, 37), (⟨"HandUnderTheChinModel", "skipped", "(I)J"⟩, 37), (⟨"HandUnderTheChinModel", "drawBelow", "(I)I"⟩, 37)]
theorem lw_r4 : ∀ q ∈ lw_privs_4, lw_okq q := List.forall_mem_cons.mpr ⟨lw_p48, List.forall_mem_cons.mpr ⟨lw_p49, List.forall_mem_cons.mpr ⟨lw_p50, List.forall_mem_cons.mpr ⟨lw_p51, List.forall_mem_cons.mpr ⟨lw_p52, List.forall_mem_cons.mpr ⟨lw_p53, List.forall_mem_cons.mpr ⟨lw_p54, List.forall_mem_cons.mpr ⟨lw_p55, List.forall_mem_cons.mpr ⟨lw_p56, List.forall_mem_cons.mpr ⟨lw_p57, List.forall_mem_cons.mpr ⟨lw_p58, List.forall_mem_cons.mpr ⟨lw_p59, List.forall_mem_cons.mpr ⟨lw_p60, List.forall_mem_cons.mpr ⟨lw_p61, List.forall_mem_cons.mpr ⟨lw_p62, List.forall_mem_cons.mpr ⟨lw_p63, fun _ h => absurd h List.not_mem_nil⟩⟩⟩⟩⟩⟩⟩⟩⟩⟩⟩⟩⟩⟩⟩⟩
def lw_privs : List (MethodName × Nat) := lw_privs_1 ++ (lw_privs_2 ++ (lw_privs_3 ++ (lw_privs_4)))
def lw_tbl : List Cond := k2_sels lw_privs ++ tables_1
theorem lw_privs_ok : ∀ q ∈ lw_privs, lw_okq q := by
  show ∀ q ∈ lw_privs_1 ++ (lw_privs_2 ++ (lw_privs_3 ++ (lw_privs_4))), lw_okq q
  exact List.forall_mem_append.mpr ⟨lw_r1, List.forall_mem_append.mpr ⟨lw_r2, List.forall_mem_append.mpr ⟨lw_r3, lw_r4⟩⟩⟩
end
section
def RX0 : String := "HandUnderTheChin$Bold"
def TX0 : u_T := fun k => match k with
  | 0 => ("HandUnderTheChin$Child", "figure", "I", true)
  | 1 => ("HandUnderTheChin$Child", "number", "I", false)
  | 2 => ("HandUnderTheChin$Child", "holds", "I", false)
  | 3 => ("HandUnderTheChin$Child", "fright", "I", false)
  | 4 => ("HandUnderTheChin$Child", "bears", "I", false)
  | 5 => ("HandUnderTheChin$Child", "passes", "I", false)
  | 6 => ("HandUnderTheChin$Child", "price", "I", false)
  | _ => ("HandUnderTheChin$Child", "needs", "[I", true)
def tyX0 : Nat → FieldType := fun k => match k with
  | 0 => .int
  | 1 => .int
  | 2 => .int
  | 3 => .int
  | 4 => .int
  | 5 => .int
  | 6 => .int
  | _ => .array .int
abbrev wsX00 : List Cond := u_ws RX0 TX0 8
theorem nmX0 : ∀ a, a < 8 → ∀ b, b < 8 → a ≠ b → (TX0 a).2.1 ≠ (TX0 b).2.1 := by decide +kernel
theorem tyX0_ok : ∀ k, k < 8 → parseFieldDescriptor (TX0 k).2.2.1 = some (tyX0 k) := by decide +kernel
abbrev cX0_init : ByteArray := prog_2_method_1_code
def yX0_init : MethodName := ⟨RX0, "<init>", "(I)V"⟩
abbrev cX0_fail : ByteArray := prog_2_method_2_code
def yX0_fail : MethodName := ⟨RX0, "fail", "()V"⟩
def RX1 : String := "HandUnderTheChin$Child"
def TX1 : u_T := fun k => match k with
  | 0 => ("HandUnderTheChin$Child", "figure", "I", true)
  | 1 => ("HandUnderTheChin$Child", "number", "I", false)
  | 2 => ("HandUnderTheChin$Child", "holds", "I", false)
  | 3 => ("HandUnderTheChin$Child", "fright", "I", false)
  | 4 => ("HandUnderTheChin$Child", "bears", "I", false)
  | 5 => ("HandUnderTheChin$Child", "passes", "I", false)
  | 6 => ("HandUnderTheChin$Child", "price", "I", false)
  | _ => ("HandUnderTheChin$Child", "needs", "[I", true)
def tyX1 : Nat → FieldType := fun k => match k with
  | 0 => .int
  | 1 => .int
  | 2 => .int
  | 3 => .int
  | 4 => .int
  | 5 => .int
  | 6 => .int
  | _ => .array .int
abbrev wsX10 : List Cond := u_ws RX1 TX1 8
theorem nmX1 : ∀ a, a < 8 → ∀ b, b < 8 → a ≠ b → (TX1 a).2.1 ≠ (TX1 b).2.1 := by decide +kernel
theorem tyX1_ok : ∀ k, k < 8 → parseFieldDescriptor (TX1 k).2.2.1 = some (tyX1 k) := by decide +kernel
abbrev cX1_init : ByteArray := prog_3_method_1_code
def yX1_init : MethodName := ⟨RX1, "<init>", "(I)V"⟩
abbrev cX1_of : ByteArray := prog_3_method_2_code
def yX1_of : MethodName := ⟨RX1, "of", "(II)LHandUnderTheChin$Child;"⟩
abbrev cX1_needsAt : ByteArray := prog_3_method_3_code
def yX1_needsAt : MethodName := ⟨RX1, "needsAt", "(I)I"⟩
abbrev cX1_fail : ByteArray := prog_3_method_4_code
def yX1_fail : MethodName := ⟨RX1, "fail", "()V"⟩
def RX2 : String := "HandUnderTheChin$Clinger"
def TX2 : u_T := fun k => match k with
  | 0 => ("HandUnderTheChin$Child", "figure", "I", true)
  | 1 => ("HandUnderTheChin$Child", "number", "I", false)
  | 2 => ("HandUnderTheChin$Child", "holds", "I", false)
  | 3 => ("HandUnderTheChin$Child", "fright", "I", false)
  | 4 => ("HandUnderTheChin$Child", "bears", "I", false)
  | 5 => ("HandUnderTheChin$Child", "passes", "I", false)
  | 6 => ("HandUnderTheChin$Child", "price", "I", false)
  | _ => ("HandUnderTheChin$Child", "needs", "[I", true)
def tyX2 : Nat → FieldType := fun k => match k with
  | 0 => .int
  | 1 => .int
  | 2 => .int
  | 3 => .int
  | 4 => .int
  | 5 => .int
  | 6 => .int
  | _ => .array .int
abbrev wsX20 : List Cond := u_ws RX2 TX2 8
theorem nmX2 : ∀ a, a < 8 → ∀ b, b < 8 → a ≠ b → (TX2 a).2.1 ≠ (TX2 b).2.1 := by decide +kernel
theorem tyX2_ok : ∀ k, k < 8 → parseFieldDescriptor (TX2 k).2.2.1 = some (tyX2 k) := by decide +kernel
abbrev cX2_init : ByteArray := prog_4_method_1_code
def yX2_init : MethodName := ⟨RX2, "<init>", "(I)V"⟩
def RX3 : String := "HandUnderTheChin$Diver"
def TX3 : u_T := fun k => match k with
  | 0 => ("HandUnderTheChin$Child", "figure", "I", true)
  | 1 => ("HandUnderTheChin$Child", "number", "I", false)
  | 2 => ("HandUnderTheChin$Child", "holds", "I", false)
  | 3 => ("HandUnderTheChin$Child", "fright", "I", false)
  | 4 => ("HandUnderTheChin$Child", "bears", "I", false)
  | 5 => ("HandUnderTheChin$Child", "passes", "I", false)
  | 6 => ("HandUnderTheChin$Child", "price", "I", false)
  | _ => ("HandUnderTheChin$Child", "needs", "[I", true)
def tyX3 : Nat → FieldType := fun k => match k with
  | 0 => .int
  | 1 => .int
  | 2 => .int
  | 3 => .int
  | 4 => .int
  | 5 => .int
  | 6 => .int
  | _ => .array .int
abbrev wsX30 : List Cond := u_ws RX3 TX3 8
theorem nmX3 : ∀ a, a < 8 → ∀ b, b < 8 → a ≠ b → (TX3 a).2.1 ≠ (TX3 b).2.1 := by decide +kernel
theorem tyX3_ok : ∀ k, k < 8 → parseFieldDescriptor (TX3 k).2.2.1 = some (tyX3 k) := by decide +kernel
abbrev cX3_init : ByteArray := prog_5_method_1_code
def yX3_init : MethodName := ⟨RX3, "<init>", "(I)V"⟩
abbrev cX3_fail : ByteArray := prog_5_method_2_code
def yX3_fail : MethodName := ⟨RX3, "fail", "()V"⟩
def RX4 : String := "HandUnderTheChin$Laugher"
def TX4 : u_T := fun k => match k with
  | 0 => ("HandUnderTheChin$Child", "figure", "I", true)
  | 1 => ("HandUnderTheChin$Child", "number", "I", false)
  | 2 => ("HandUnderTheChin$Child", "holds", "I", false)
  | 3 => ("HandUnderTheChin$Child", "fright", "I", false)
  | 4 => ("HandUnderTheChin$Child", "bears", "I", false)
  | 5 => ("HandUnderTheChin$Child", "passes", "I", false)
  | 6 => ("HandUnderTheChin$Child", "price", "I", false)
  | _ => ("HandUnderTheChin$Child", "needs", "[I", true)
def tyX4 : Nat → FieldType := fun k => match k with
  | 0 => .int
  | 1 => .int
  | 2 => .int
  | 3 => .int
  | 4 => .int
  | 5 => .int
  | 6 => .int
  | _ => .array .int
abbrev wsX40 : List Cond := u_ws RX4 TX4 8
theorem nmX4 : ∀ a, a < 8 → ∀ b, b < 8 → a ≠ b → (TX4 a).2.1 ≠ (TX4 b).2.1 := by decide +kernel
theorem tyX4_ok : ∀ k, k < 8 → parseFieldDescriptor (TX4 k).2.2.1 = some (tyX4 k) := by decide +kernel
abbrev cX4_init : ByteArray := prog_6_method_1_code
def yX4_init : MethodName := ⟨RX4, "<init>", "(I)V"⟩
def RX5 : String := "HandUnderTheChin$Pupil"
def TX5 : u_T := fun k => match k with
  | 0 => ("HandUnderTheChin$Pupil", "kind", "LHandUnderTheChin$Child;", false)
  | 1 => ("HandUnderTheChin$Pupil", "trust", "I", false)
  | 2 => ("HandUnderTheChin$Pupil", "step", "I", false)
  | _ => ("HandUnderTheChin$Pupil", "cold", "I", false)
def tyX5 : Nat → FieldType := fun k => match k with
  | 0 => .object "HandUnderTheChin$Child"
  | 1 => .int
  | 2 => .int
  | _ => .int
abbrev wsX50 : List Cond := u_ws RX5 TX5 4
theorem nmX5 : ∀ a, a < 4 → ∀ b, b < 4 → a ≠ b → (TX5 a).2.1 ≠ (TX5 b).2.1 := by decide +kernel
theorem tyX5_ok : ∀ k, k < 4 → parseFieldDescriptor (TX5 k).2.2.1 = some (tyX5 k) := by decide +kernel
abbrev cX5_init : ByteArray := prog_7_method_1_code
def yX5_init : MethodName := ⟨RX5, "<init>", "(LHandUnderTheChin$Child;)V"⟩
abbrev cX5_setTo : ByteArray := prog_7_method_2_code
def yX5_setTo : MethodName := ⟨RX5, "setTo", "(LHandUnderTheChin$Pupil;)V"⟩
abbrev cX5_swims : ByteArray := prog_7_method_3_code
def yX5_swims : MethodName := ⟨RX5, "swims", "()Z"⟩
abbrev cX5_needs : ByteArray := prog_7_method_4_code
def yX5_needs : MethodName := ⟨RX5, "needs", "()I"⟩
abbrev cX5_isReady : ByteArray := prog_7_method_5_code
def yX5_isReady : MethodName := ⟨RX5, "isReady", "()Z"⟩
abbrev cX5_isBehind : ByteArray := prog_7_method_6_code
def yX5_isBehind : MethodName := ⟨RX5, "isBehind", "(LHandUnderTheChin$Pupil;)Z"⟩
abbrev cX5_gain : ByteArray := prog_7_method_7_code
def yX5_gain : MethodName := ⟨RX5, "gain", "(I)V"⟩
abbrev cX5_trustByFinger : ByteArray := prog_7_method_8_code
def yX5_trustByFinger : MethodName := ⟨RX5, "trustByFinger", "()I"⟩
abbrev cX5_stepsByFinger : ByteArray := prog_7_method_9_code
def yX5_stepsByFinger : MethodName := ⟨RX5, "stepsByFinger", "()Z"⟩
abbrev cX5_meets : ByteArray := prog_7_method_10_code
def yX5_meets : MethodName := ⟨RX5, "meets", "(I)Z"⟩
abbrev cX5_getsColder : ByteArray := prog_7_method_11_code
def yX5_getsColder : MethodName := ⟨RX5, "getsColder", "()V"⟩
abbrev cX5_pauses : ByteArray := prog_7_method_12_code
def yX5_pauses : MethodName := ⟨RX5, "pauses", "(I)V"⟩
def RX6 : String := "HandUnderTheChin$Pusher"
def TX6 : u_T := fun k => match k with
  | 0 => ("HandUnderTheChin$Child", "figure", "I", true)
  | 1 => ("HandUnderTheChin$Child", "number", "I", false)
  | 2 => ("HandUnderTheChin$Child", "holds", "I", false)
  | 3 => ("HandUnderTheChin$Child", "fright", "I", false)
  | 4 => ("HandUnderTheChin$Child", "bears", "I", false)
  | 5 => ("HandUnderTheChin$Child", "passes", "I", false)
  | 6 => ("HandUnderTheChin$Child", "price", "I", false)
  | _ => ("HandUnderTheChin$Child", "needs", "[I", true)
def tyX6 : Nat → FieldType := fun k => match k with
  | 0 => .int
  | 1 => .int
  | 2 => .int
  | 3 => .int
  | 4 => .int
  | 5 => .int
  | 6 => .int
  | _ => .array .int
abbrev wsX60 : List Cond := u_ws RX6 TX6 8
theorem nmX6 : ∀ a, a < 8 → ∀ b, b < 8 → a ≠ b → (TX6 a).2.1 ≠ (TX6 b).2.1 := by decide +kernel
theorem tyX6_ok : ∀ k, k < 8 → parseFieldDescriptor (TX6 k).2.2.1 = some (tyX6 k) := by decide +kernel
abbrev cX6_init : ByteArray := prog_8_method_1_code
def yX6_init : MethodName := ⟨RX6, "<init>", "(I)V"⟩
def RX7 : String := "HandUnderTheChin$Rail"
def TX7 : u_T := fun k => match k with
  | 0 => ("HandUnderTheChin$Rail", "pupils", "[LHandUnderTheChin$Pupil;", true)
  | 1 => ("HandUnderTheChin$Rail", "aside", "LHandUnderTheChin$Pupil;", true)
  | 2 => ("HandUnderTheChin$Rail", "size", "I", false)
  | 3 => ("HandUnderTheChin$Rail", "minute", "I", false)
  | _ => ("HandUnderTheChin$Rail", "turn", "I", false)
def tyX7 : Nat → FieldType := fun k => match k with
  | 0 => .array (.object "HandUnderTheChin$Pupil")
  | 1 => .object "HandUnderTheChin$Pupil"
  | 2 => .int
  | 3 => .int
  | _ => .int
abbrev wsX70 : List Cond := u_ws RX7 TX7 5
theorem nmX7 : ∀ a, a < 5 → ∀ b, b < 5 → a ≠ b → (TX7 a).2.1 ≠ (TX7 b).2.1 := by decide +kernel
theorem tyX7_ok : ∀ k, k < 5 → parseFieldDescriptor (TX7 k).2.2.1 = some (tyX7 k) := by decide +kernel
abbrev cX7_init : ByteArray := prog_9_method_1_code
def yX7_init : MethodName := ⟨RX7, "<init>", "(LHandUnderTheChin$Child;)V"⟩
abbrev cX7_setTo : ByteArray := prog_9_method_2_code
def yX7_setTo : MethodName := ⟨RX7, "setTo", "(LHandUnderTheChin$Rail;)V"⟩
abbrev cX7_has : ByteArray := prog_9_method_3_code
def yX7_has : MethodName := ⟨RX7, "has", "(I)Z"⟩
abbrev cX7_hasTwo : ByteArray := prog_9_method_4_code
def yX7_hasTwo : MethodName := ⟨RX7, "hasTwo", "(II)Z"⟩
abbrev cX7_hasRoom : ByteArray := prog_9_method_5_code
def yX7_hasRoom : MethodName := ⟨RX7, "hasRoom", "()Z"⟩
abbrev cX7_canTake : ByteArray := prog_9_method_6_code
def yX7_canTake : MethodName := ⟨RX7, "canTake", "(II)Z"⟩
abbrev cX7_add : ByteArray := prog_9_method_7_code
def yX7_add : MethodName := ⟨RX7, "add", "(LHandUnderTheChin$Child;I)V"⟩
abbrev cX7_swap : ByteArray := prog_9_method_8_code
def yX7_swap : MethodName := ⟨RX7, "swap", "(II)V"⟩
abbrev cX7_pause : ByteArray := prog_9_method_9_code
def yX7_pause : MethodName := ⟨RX7, "pause", "(I)V"⟩
abbrev cX7_take : ByteArray := prog_9_method_10_code
def yX7_take : MethodName := ⟨RX7, "take", "(II)Z"⟩
abbrev cX7_shownTo : ByteArray := prog_9_method_11_code
def yX7_shownTo : MethodName := ⟨RX7, "shownTo", "(I)I"⟩
abbrev cX7_passOn : ByteArray := prog_9_method_12_code
def yX7_passOn : MethodName := ⟨RX7, "passOn", "(II)V"⟩
abbrev cX7_neighbours : ByteArray := prog_9_method_13_code
def yX7_neighbours : MethodName := ⟨RX7, "neighbours", "(I)I"⟩
abbrev cX7_takeTurn : ByteArray := prog_9_method_14_code
def yX7_takeTurn : MethodName := ⟨RX7, "takeTurn", "()I"⟩
abbrev cX7_obeys : ByteArray := prog_9_method_15_code
def yX7_obeys : MethodName := ⟨RX7, "obeys", "(LHandUnderTheChin$Row;I)Z"⟩
abbrev cX7_obeysCome : ByteArray := prog_9_method_16_code
def yX7_obeysCome : MethodName := ⟨RX7, "obeysCome", "(III)Z"⟩
abbrev cX7_obeysMinute : ByteArray := prog_9_method_17_code
def yX7_obeysMinute : MethodName := ⟨RX7, "obeysMinute", "(II)Z"⟩
abbrev cX7_obeysChange : ByteArray := prog_9_method_18_code
def yX7_obeysChange : MethodName := ⟨RX7, "obeysChange", "(II)Z"⟩
abbrev cX7_obeysTrust : ByteArray := prog_9_method_19_code
def yX7_obeysTrust : MethodName := ⟨RX7, "obeysTrust", "(II)Z"⟩
abbrev cX7_obeysStep : ByteArray := prog_9_method_20_code
def yX7_obeysStep : MethodName := ⟨RX7, "obeysStep", "(II)Z"⟩
abbrev cX7_anyCanStep : ByteArray := prog_9_method_21_code
def yX7_anyCanStep : MethodName := ⟨RX7, "anyCanStep", "()Z"⟩
abbrev cX7_readyBits : ByteArray := prog_9_method_22_code
def yX7_readyBits : MethodName := ⟨RX7, "readyBits", "()I"⟩
abbrev cX7_swimBits : ByteArray := prog_9_method_23_code
def yX7_swimBits : MethodName := ⟨RX7, "swimBits", "()I"⟩
abbrev cX7_holdsOf : ByteArray := prog_9_method_24_code
def yX7_holdsOf : MethodName := ⟨RX7, "holdsOf", "(I)I"⟩
abbrev cX7_allTrust : ByteArray := prog_9_method_25_code
def yX7_allTrust : MethodName := ⟨RX7, "allTrust", "()I"⟩
abbrev cX7_allSteps : ByteArray := prog_9_method_26_code
def yX7_allSteps : MethodName := ⟨RX7, "allSteps", "()I"⟩
abbrev cX7_allCold : ByteArray := prog_9_method_27_code
def yX7_allCold : MethodName := ⟨RX7, "allCold", "()I"⟩
def RX8 : String := "HandUnderTheChin$Row"
def TX8 : u_T := fun k => match k with
  | 0 => ("HandUnderTheChin$Row", "sort", "I", true)
  | _ => ("HandUnderTheChin$Row", "elements", "[I", true)
def tyX8 : Nat → FieldType := fun k => match k with
  | 0 => .int
  | _ => .array .int
abbrev wsX80 : List Cond := u_ws RX8 TX8 2
theorem nmX8 : ∀ a, a < 2 → ∀ b, b < 2 → a ≠ b → (TX8 a).2.1 ≠ (TX8 b).2.1 := by decide +kernel
theorem tyX8_ok : ∀ k, k < 2 → parseFieldDescriptor (TX8 k).2.2.1 = some (tyX8 k) := by decide +kernel
abbrev cX8_init : ByteArray := prog_10_method_1_code
def yX8_init : MethodName := ⟨RX8, "<init>", "(II)V"⟩
abbrev cX8_size : ByteArray := prog_10_method_2_code
def yX8_size : MethodName := ⟨RX8, "size", "()I"⟩
abbrev cX8_has : ByteArray := prog_10_method_3_code
def yX8_has : MethodName := ⟨RX8, "has", "(I)Z"⟩
abbrev cX8_hasPart : ByteArray := prog_10_method_4_code
def yX8_hasPart : MethodName := ⟨RX8, "hasPart", "(II)Z"⟩
abbrev cX8_at : ByteArray := prog_10_method_5_code
def yX8_at : MethodName := ⟨RX8, "at", "(I)I"⟩
abbrev cX8_set : ByteArray := prog_10_method_6_code
def yX8_set : MethodName := ⟨RX8, "set", "(II)V"⟩
abbrev cX8_least : ByteArray := prog_10_method_7_code
def yX8_least : MethodName := ⟨RX8, "least", "()I"⟩
abbrev cX8_digitsBehind : ByteArray := prog_10_method_8_code
def yX8_digitsBehind : MethodName := ⟨RX8, "digitsBehind", "(I)I"⟩
abbrev cX8_misshapenAt : ByteArray := prog_10_method_9_code
def yX8_misshapenAt : MethodName := ⟨RX8, "misshapenAt", "()I"⟩
abbrev cX8_number : ByteArray := prog_10_method_10_code
def yX8_number : MethodName := ⟨RX8, "number", "(II)I"⟩
def RX9 : String := "HandUnderTheChin$Shy"
def TX9 : u_T := fun k => match k with
  | 0 => ("HandUnderTheChin$Child", "figure", "I", true)
  | 1 => ("HandUnderTheChin$Child", "number", "I", false)
  | 2 => ("HandUnderTheChin$Child", "holds", "I", false)
  | 3 => ("HandUnderTheChin$Child", "fright", "I", false)
  | 4 => ("HandUnderTheChin$Child", "bears", "I", false)
  | 5 => ("HandUnderTheChin$Child", "passes", "I", false)
  | 6 => ("HandUnderTheChin$Child", "price", "I", false)
  | _ => ("HandUnderTheChin$Child", "needs", "[I", true)
def tyX9 : Nat → FieldType := fun k => match k with
  | 0 => .int
  | 1 => .int
  | 2 => .int
  | 3 => .int
  | 4 => .int
  | 5 => .int
  | 6 => .int
  | _ => .array .int
abbrev wsX90 : List Cond := u_ws RX9 TX9 8
theorem nmX9 : ∀ a, a < 8 → ∀ b, b < 8 → a ≠ b → (TX9 a).2.1 ≠ (TX9 b).2.1 := by decide +kernel
theorem tyX9_ok : ∀ k, k < 8 → parseFieldDescriptor (TX9 k).2.2.1 = some (tyX9 k) := by decide +kernel
abbrev cX9_init : ByteArray := prog_11_method_1_code
def yX9_init : MethodName := ⟨RX9, "<init>", "(I)V"⟩
abbrev cX9_fail : ByteArray := prog_11_method_2_code
def yX9_fail : MethodName := ⟨RX9, "fail", "()V"⟩
def RX10 : String := "HandUnderTheChin$Twin"
def TX10 : u_T := fun k => match k with
  | 0 => ("HandUnderTheChin$Child", "figure", "I", true)
  | 1 => ("HandUnderTheChin$Child", "number", "I", false)
  | 2 => ("HandUnderTheChin$Child", "holds", "I", false)
  | 3 => ("HandUnderTheChin$Child", "fright", "I", false)
  | 4 => ("HandUnderTheChin$Child", "bears", "I", false)
  | 5 => ("HandUnderTheChin$Child", "passes", "I", false)
  | 6 => ("HandUnderTheChin$Child", "price", "I", false)
  | _ => ("HandUnderTheChin$Child", "needs", "[I", true)
def tyX10 : Nat → FieldType := fun k => match k with
  | 0 => .int
  | 1 => .int
  | 2 => .int
  | 3 => .int
  | 4 => .int
  | 5 => .int
  | 6 => .int
  | _ => .array .int
abbrev wsX100 : List Cond := u_ws RX10 TX10 8
theorem nmX10 : ∀ a, a < 8 → ∀ b, b < 8 → a ≠ b → (TX10 a).2.1 ≠ (TX10 b).2.1 := by decide +kernel
theorem tyX10_ok : ∀ k, k < 8 → parseFieldDescriptor (TX10 k).2.2.1 = some (tyX10 k) := by decide +kernel
abbrev cX10_init : ByteArray := prog_12_method_1_code
def yX10_init : MethodName := ⟨RX10, "<init>", "(I)V"⟩
abbrev cX10_fail : ByteArray := prog_12_method_2_code
def yX10_fail : MethodName := ⟨RX10, "fail", "()V"⟩
def RX11 : String := "HandUnderTheChin"
def TX11 : u_T := fun k => match k with
  | 0 => ("HandUnderTheChin", "now", "LHandUnderTheChin$Rail;", true)
  | 1 => ("HandUnderTheChin", "imaged", "LHandUnderTheChin$Rail;", true)
  | 2 => ("HandUnderTheChin", "hasImage", "Z", false)
  | 3 => ("HandUnderTheChin", "trials", "[LHandUnderTheChin$Rail;", true)
  | 4 => ("HandUnderTheChin", "walker", "LHandUnderTheChin$Pupil;", true)
  | 5 => ("HandUnderTheChin", "ahead", "LHandUnderTheChin$Pupil;", true)
  | 6 => ("HandUnderTheChin", "minutesTo", "[I", true)
  | 7 => ("HandUnderTheChin", "queue", "[I", true)
  | 8 => ("HandUnderTheChin", "order", "[I", true)
  | 9 => ("HandUnderTheChin", "bestOrder", "[I", true)
  | 10 => ("HandUnderTheChin", "bestSum", "I", false)
  | 11 => ("HandUnderTheChin", "kinds", "[LHandUnderTheChin$Child;", true)
  | _ => ("HandUnderTheChin", "rows", "[LHandUnderTheChin$Row;", true)
def tyX11 : Nat → FieldType := fun k => match k with
  | 0 => .object "HandUnderTheChin$Rail"
  | 1 => .object "HandUnderTheChin$Rail"
  | 2 => .boolean
  | 3 => .array (.object "HandUnderTheChin$Rail")
  | 4 => .object "HandUnderTheChin$Pupil"
  | 5 => .object "HandUnderTheChin$Pupil"
  | 6 => .array .int
  | 7 => .array .int
  | 8 => .array .int
  | 9 => .array .int
  | 10 => .int
  | 11 => .array (.object "HandUnderTheChin$Child")
  | _ => .array (.object "HandUnderTheChin$Row")
abbrev wsX110 : List Cond := u_ws RX11 TX11 13
theorem nmX11 : ∀ a, a < 13 → ∀ b, b < 13 → a ≠ b → (TX11 a).2.1 ≠ (TX11 b).2.1 := by decide +kernel
theorem tyX11_ok : ∀ k, k < 13 → parseFieldDescriptor (TX11 k).2.2.1 = some (tyX11 k) := by decide +kernel
abbrev cX11_init : ByteArray := prog_1_method_1_code
def yX11_init : MethodName := ⟨RX11, "<init>", "()V"⟩
abbrev cX11_bath : ByteArray := prog_1_method_2_code
def yX11_bath : MethodName := ⟨RX11, "bath", "(I)I"⟩
abbrev cX11_child : ByteArray := prog_1_method_3_code
def yX11_child : MethodName := ⟨RX11, "child", "(II)I"⟩
abbrev cX11_comes : ByteArray := prog_1_method_4_code
def yX11_comes : MethodName := ⟨RX11, "comes", "(II)I"⟩
abbrev cX11_feels : ByteArray := prog_1_method_5_code
def yX11_feels : MethodName := ⟨RX11, "feels", "(III)I"⟩
abbrev cX11_minute : ByteArray := prog_1_method_6_code
def yX11_minute : MethodName := ⟨RX11, "minute", "(II)I"⟩
abbrev cX11_change : ByteArray := prog_1_method_7_code
def yX11_change : MethodName := ⟨RX11, "change", "(II)I"⟩
abbrev cX11_rest : ByteArray := prog_1_method_8_code
def yX11_rest : MethodName := ⟨RX11, "rest", "(I)I"⟩
abbrev cX11_ready : ByteArray := prog_1_method_9_code
def yX11_ready : MethodName := ⟨RX11, "ready", "()I"⟩
abbrev cX11_alone : ByteArray := prog_1_method_10_code
def yX11_alone : MethodName := ⟨RX11, "alone", "(II)I"⟩
abbrev cX11_neverHeld : ByteArray := prog_1_method_11_code
def yX11_neverHeld : MethodName := ⟨RX11, "neverHeld", "(I)I"⟩
abbrev cX11_mostSteps : ByteArray := prog_1_method_12_code
def yX11_mostSteps : MethodName := ⟨RX11, "mostSteps", "(II)I"⟩
abbrev cX11_byTurns : ByteArray := prog_1_method_13_code
def yX11_byTurns : MethodName := ⟨RX11, "byTurns", "(II)I"⟩
abbrev cX11_allSwim : ByteArray := prog_1_method_14_code
def yX11_allSwim : MethodName := ⟨RX11, "allSwim", "()I"⟩
abbrev cX11_beside : ByteArray := prog_1_method_15_code
def yX11_beside : MethodName := ⟨RX11, "beside", "(I)I"⟩
abbrev cX11_helps : ByteArray := prog_1_method_16_code
def yX11_helps : MethodName := ⟨RX11, "helps", "()I"⟩
abbrev cX11_costs : ByteArray := prog_1_method_17_code
def yX11_costs : MethodName := ⟨RX11, "costs", "(I)I"⟩
abbrev cX11_bands : ByteArray := prog_1_method_18_code
def yX11_bands : MethodName := ⟨RX11, "bands", "(III)I"⟩
abbrev cX11_frights : ByteArray := prog_1_method_19_code
def yX11_frights : MethodName := ⟨RX11, "frights", "(IIIII)J"⟩
abbrev cX11_was : ByteArray := prog_1_method_20_code
def yX11_was : MethodName := ⟨RX11, "was", "(IIII)I"⟩
abbrev cX11_dare : ByteArray := prog_1_method_21_code
def yX11_dare : MethodName := ⟨RX11, "dare", "(II)I"⟩
abbrev cX11_group : ByteArray := prog_1_method_22_code
def yX11_group : MethodName := ⟨RX11, "group", "(II)I"⟩
abbrev cX11_forget : ByteArray := prog_1_method_23_code
def yX11_forget : MethodName := ⟨RX11, "forget", "()I"⟩
abbrev cX11_coldest : ByteArray := prog_1_method_24_code
def yX11_coldest : MethodName := ⟨RX11, "coldest", "(II)I"⟩
abbrev cX11_last : ByteArray := prog_1_method_25_code
def yX11_last : MethodName := ⟨RX11, "last", "()I"⟩
abbrev cX11_mean : ByteArray := prog_1_method_26_code
def yX11_mean : MethodName := ⟨RX11, "mean", "(I)J"⟩
abbrev cX11_forged : ByteArray := prog_1_method_27_code
def yX11_forged : MethodName := ⟨RX11, "forged", "(I)I"⟩
abbrev cX11_judge : ByteArray := prog_1_method_28_code
def yX11_judge : MethodName := ⟨RX11, "judge", "(II)I"⟩
abbrev cX11_weeks : ByteArray := prog_1_method_29_code
def yX11_weeks : MethodName := ⟨RX11, "weeks", "(III)I"⟩
abbrev cX11_image : ByteArray := prog_1_method_30_code
def yX11_image : MethodName := ⟨RX11, "image", "()I"⟩
abbrev cX11_restore : ByteArray := prog_1_method_31_code
def yX11_restore : MethodName := ⟨RX11, "restore", "()I"⟩
abbrev cX11_count : ByteArray := prog_1_method_32_code
def yX11_count : MethodName := ⟨RX11, "count", "(I)I"⟩
abbrev cX11_keep : ByteArray := prog_1_method_33_code
def yX11_keep : MethodName := ⟨RX11, "keep", "(IIII)I"⟩
abbrev cX11_row : ByteArray := prog_1_method_34_code
def yX11_row : MethodName := ⟨RX11, "row", "(III)I"⟩
abbrev cX11_put : ByteArray := prog_1_method_35_code
def yX11_put : MethodName := ⟨RX11, "put", "(III)I"⟩
abbrev cX11_element : ByteArray := prog_1_method_36_code
def yX11_element : MethodName := ⟨RX11, "element", "(II)J"⟩
abbrev cX11_copy : ByteArray := prog_1_method_37_code
def yX11_copy : MethodName := ⟨RX11, "copy", "(IIIII)I"⟩
abbrev cX11_cost : ByteArray := prog_1_method_38_code
def yX11_cost : MethodName := ⟨RX11, "cost", "(I)I"⟩
abbrev cX11_toss : ByteArray := prog_1_method_39_code
def yX11_toss : MethodName := ⟨RX11, "toss", "(I)I"⟩
abbrev cX11_within : ByteArray := prog_1_method_40_code
def yX11_within : MethodName := ⟨RX11, "within", "(III)Z"⟩
abbrev cX11_isShelf : ByteArray := prog_1_method_41_code
def yX11_isShelf : MethodName := ⟨RX11, "isShelf", "(I)Z"⟩
abbrev cX11_isEmpty : ByteArray := prog_1_method_42_code
def yX11_isEmpty : MethodName := ⟨RX11, "isEmpty", "(I)Z"⟩
abbrev cX11_rowOn : ByteArray := prog_1_method_43_code
def yX11_rowOn : MethodName := ⟨RX11, "rowOn", "(I)LHandUnderTheChin$Row;"⟩
abbrev cX11_kindOn : ByteArray := prog_1_method_44_code
def yX11_kindOn : MethodName := ⟨RX11, "kindOn", "(I)LHandUnderTheChin$Child;"⟩
abbrev cX11_whyNot : ByteArray := prog_1_method_45_code
def yX11_whyNot : MethodName := ⟨RX11, "whyNot", "(I)I"⟩
abbrev cX11_fromNow : ByteArray := prog_1_method_46_code
def yX11_fromNow : MethodName := ⟨RX11, "fromNow", "()LHandUnderTheChin$Rail;"⟩
abbrev cX11_fewestAlone : ByteArray := prog_1_method_47_code
def yX11_fewestAlone : MethodName := ⟨RX11, "fewestAlone", "(LHandUnderTheChin$Pupil;I)I"⟩
abbrev cX11_stateOf : ByteArray := prog_1_method_48_code
def yX11_stateOf : MethodName := ⟨RX11, "stateOf", "(LHandUnderTheChin$Pupil;)I"⟩
abbrev cX11_firstWayAlone : ByteArray := prog_1_method_49_code
def yX11_firstWayAlone : MethodName := ⟨RX11, "firstWayAlone", "(LHandUnderTheChin$Pupil;I)I"⟩
abbrev cX11_mostFrom : ByteArray := prog_1_method_50_code
def yX11_mostFrom : MethodName := ⟨RX11, "mostFrom", "(II)I"⟩
abbrev cX11_firstMinuteTo : ByteArray := prog_1_method_51_code
def yX11_firstMinuteTo : MethodName := ⟨RX11, "firstMinuteTo", "(II)I"⟩
abbrev cX11_arrange : ByteArray := prog_1_method_52_code
def yX11_arrange : MethodName := ⟨RX11, "arrange", "(III)V"⟩
abbrev cX11_passesOf : ByteArray := prog_1_method_53_code
def yX11_passesOf : MethodName := ⟨RX11, "passesOf", "(I)I"⟩
abbrev cX11_outcomes : ByteArray := prog_1_method_54_code
def yX11_outcomes : MethodName := ⟨RX11, "outcomes", "(LHandUnderTheChin$Child;IIIII)J"⟩
abbrev cX11_inLeastTerms : ByteArray := prog_1_method_55_code
def yX11_inLeastTerms : MethodName := ⟨RX11, "inLeastTerms", "(JJI)J"⟩
abbrev cX11_tellsHolding : ByteArray := prog_1_method_56_code
def yX11_tellsHolding : MethodName := ⟨RX11, "tellsHolding", "(LHandUnderTheChin$Row;II)Z"⟩
abbrev cX11_staysWith : ByteArray := prog_1_method_57_code
def yX11_staysWith : MethodName := ⟨RX11, "staysWith", "(LHandUnderTheChin$Pupil;II)Z"⟩
abbrev cX11_daring : ByteArray := prog_1_method_58_code
def yX11_daring : MethodName := ⟨RX11, "daring", "(LHandUnderTheChin$Pupil;II)I"⟩
abbrev cX11_seedBehind : ByteArray := prog_1_method_59_code
def yX11_seedBehind : MethodName := ⟨RX11, "seedBehind", "(I)I"⟩
abbrev cX11_below : ByteArray := prog_1_method_60_code
def yX11_below : MethodName := ⟨RX11, "below", "(II)I"⟩
def RX12 : String := "HandUnderTheChinModel"
def TX12 : u_T := fun k => match k with
  | 0 => ("HandUnderTheChinModel", "children", "I", false)
  | 1 => ("HandUnderTheChinModel", "kinds", "[I", true)
  | 2 => ("HandUnderTheChinModel", "figures", "[I", true)
  | 3 => ("HandUnderTheChinModel", "trusts", "[I", true)
  | 4 => ("HandUnderTheChinModel", "steps", "[I", true)
  | 5 => ("HandUnderTheChinModel", "colds", "[I", true)
  | 6 => ("HandUnderTheChinModel", "minute0", "I", false)
  | 7 => ("HandUnderTheChinModel", "holdsWhat", "[I", true)
  | 8 => ("HandUnderTheChinModel", "keptKind", "[I", true)
  | 9 => ("HandUnderTheChinModel", "keptFigure", "[I", true)
  | 10 => ("HandUnderTheChinModel", "rowSort", "[I", true)
  | 11 => ("HandUnderTheChinModel", "rowMany", "[I", true)
  | 12 => ("HandUnderTheChinModel", "rows", "[J", true)
  | 13 => ("HandUnderTheChinModel", "thrown", "I", false)
  | 14 => ("HandUnderTheChinModel", "reading", "I", false)
  | 15 => ("HandUnderTheChinModel", "at", "I", false)
  | 16 => ("HandUnderTheChinModel", "isBad", "Z", false)
  | 17 => ("HandUnderTheChinModel", "statements", "I", false)
  | 18 => ("HandUnderTheChinModel", "placeIn", "[I", true)
  | 19 => ("HandUnderTheChinModel", "letterOf", "[I", true)
  | 20 => ("HandUnderTheChinModel", "told", "[I", true)
  | 21 => ("HandUnderTheChinModel", "kept", "[I", true)
  | 22 => ("HandUnderTheChinModel", "imaged", "[I", true)
  | 23 => ("HandUnderTheChinModel", "hasImage", "Z", false)
  | 24 => ("HandUnderTheChinModel", "place0", "I", false)
  | 25 => ("HandUnderTheChinModel", "isTaking", "Z", false)
  | 26 => ("HandUnderTheChinModel", "keptIn", "[I", false)
  | 27 => ("HandUnderTheChinModel", "fewest", "[I", true)
  | 28 => ("HandUnderTheChinModel", "past", "[I", true)
  | 29 => ("HandUnderTheChinModel", "stage", "[I", true)
  | 30 => ("HandUnderTheChinModel", "choices", "[I", true)
  | 31 => ("HandUnderTheChinModel", "mostAll", "I", false)
  | 32 => ("HandUnderTheChinModel", "mostFirst", "I", false)
  | 33 => ("HandUnderTheChinModel", "turnAt", "I", false)
  | 34 => ("HandUnderTheChinModel", "order0", "[I", true)
  | 35 => ("HandUnderTheChinModel", "seed", "I", false)
  | _ => ("HandUnderTheChinModel", "between", "[J", true)
def tyX12 : Nat → FieldType := fun k => match k with
  | 0 => .int
  | 1 => .array .int
  | 2 => .array .int
  | 3 => .array .int
  | 4 => .array .int
  | 5 => .array .int
  | 6 => .int
  | 7 => .array .int
  | 8 => .array .int
  | 9 => .array .int
  | 10 => .array .int
  | 11 => .array .int
  | 12 => .array .long
  | 13 => .int
  | 14 => .int
  | 15 => .int
  | 16 => .boolean
  | 17 => .int
  | 18 => .array .int
  | 19 => .array .int
  | 20 => .array .int
  | 21 => .array .int
  | 22 => .array .int
  | 23 => .boolean
  | 24 => .int
  | 25 => .boolean
  | 26 => .array .int
  | 27 => .array .int
  | 28 => .array .int
  | 29 => .array .int
  | 30 => .array .int
  | 31 => .int
  | 32 => .int
  | 33 => .int
  | 34 => .array .int
  | 35 => .int
  | _ => .array .long
abbrev wsX120 : List Cond := u_ws RX12 TX12 37
theorem nmX12 : ∀ a, a < 37 → ∀ b, b < 37 → a ≠ b → (TX12 a).2.1 ≠ (TX12 b).2.1 := by decide +kernel
theorem tyX12_ok : ∀ k, k < 37 → parseFieldDescriptor (TX12 k).2.2.1 = some (tyX12 k) := by decide +kernel
abbrev cX12_init : ByteArray := prog_14_method_1_code
def yX12_init : MethodName := ⟨RX12, "<init>", "()V"⟩
abbrev cX12_thrown : ByteArray := prog_14_method_2_code
def yX12_thrown : MethodName := ⟨RX12, "thrown", "()I"⟩
abbrev cX12_in : ByteArray := prog_14_method_3_code
def yX12_in : MethodName := ⟨RX12, "in", "(JJJ)Z"⟩
abbrev cX12_hasBit : ByteArray := prog_14_method_4_code
def yX12_hasBit : MethodName := ⟨RX12, "hasBit", "(II)Z"⟩
abbrev cX12_onesOf : ByteArray := prog_14_method_5_code
def yX12_onesOf : MethodName := ⟨RX12, "onesOf", "(I)I"⟩
abbrev cX12_held : ByteArray := prog_14_method_6_code
def yX12_held : MethodName := ⟨RX12, "held", "(II)I"⟩
abbrev cX12_isChild : ByteArray := prog_14_method_7_code
def yX12_isChild : MethodName := ⟨RX12, "isChild", "(I)Z"⟩
abbrev cX12_holdsBy : ByteArray := prog_14_method_8_code
def yX12_holdsBy : MethodName := ⟨RX12, "holdsBy", "(II)I"⟩
abbrev cX12_holdsOf : ByteArray := prog_14_method_9_code
def yX12_holdsOf : MethodName := ⟨RX12, "holdsOf", "(I)I"⟩
abbrev cX12_needsAt : ByteArray := prog_14_method_10_code
def yX12_needsAt : MethodName := ⟨RX12, "needsAt", "(II)I"⟩
abbrev cX12_needsOf : ByteArray := prog_14_method_11_code
def yX12_needsOf : MethodName := ⟨RX12, "needsOf", "(I)I"⟩
abbrev cX12_frightOf : ByteArray := prog_14_method_12_code
def yX12_frightOf : MethodName := ⟨RX12, "frightOf", "(I)I"⟩
abbrev cX12_bearsOf : ByteArray := prog_14_method_13_code
def yX12_bearsOf : MethodName := ⟨RX12, "bearsOf", "(I)I"⟩
abbrev cX12_passesOf : ByteArray := prog_14_method_14_code
def yX12_passesOf : MethodName := ⟨RX12, "passesOf", "(I)I"⟩
abbrev cX12_isReady : ByteArray := prog_14_method_15_code
def yX12_isReady : MethodName := ⟨RX12, "isReady", "(I)Z"⟩
abbrev cX12_gains : ByteArray := prog_14_method_16_code
def yX12_gains : MethodName := ⟨RX12, "gains", "(II)V"⟩
abbrev cX12_letGo : ByteArray := prog_14_method_17_code
def yX12_letGo : MethodName := ⟨RX12, "letGo", "(I)V"⟩
abbrev cX12_show : ByteArray := prog_14_method_18_code
def yX12_show : MethodName := ⟨RX12, "show", "(I)V"⟩
abbrev cX12_colder : ByteArray := prog_14_method_19_code
def yX12_colder : MethodName := ⟨RX12, "colder", "(I)V"⟩
abbrev cX12_goMinute : ByteArray := prog_14_method_20_code
def yX12_goMinute : MethodName := ⟨RX12, "goMinute", "(II)V"⟩
abbrev cX12_goBreak : ByteArray := prog_14_method_21_code
def yX12_goBreak : MethodName := ⟨RX12, "goBreak", "(I)V"⟩
abbrev cX12_allSteps : ByteArray := prog_14_method_22_code
def yX12_allSteps : MethodName := ⟨RX12, "allSteps", "()I"⟩
abbrev cX12_swimBits : ByteArray := prog_14_method_23_code
def yX12_swimBits : MethodName := ⟨RX12, "swimBits", "()I"⟩
abbrev cX12_here : ByteArray := prog_14_method_24_code
def yX12_here : MethodName := ⟨RX12, "here", "()I"⟩
abbrev cX12_readDigits : ByteArray := prog_14_method_25_code
def yX12_readDigits : MethodName := ⟨RX12, "readDigits", "(I)I"⟩
abbrev cX12_isLetter : ByteArray := prog_14_method_26_code
def yX12_isLetter : MethodName := ⟨RX12, "isLetter", "(I)Z"⟩
abbrev cX12_readNumbers : ByteArray := prog_14_method_27_code
def yX12_readNumbers : MethodName := ⟨RX12, "readNumbers", "(II)V"⟩
abbrev cX12_readStatement : ByteArray := prog_14_method_28_code
def yX12_readStatement : MethodName := ⟨RX12, "readStatement", "()V"⟩
abbrev cX12_childComes : ByteArray := prog_14_method_29_code
def yX12_childComes : MethodName := ⟨RX12, "childComes", "(III)Z"⟩
abbrev cX12_minuteComes : ByteArray := prog_14_method_30_code
def yX12_minuteComes : MethodName := ⟨RX12, "minuteComes", "(II)Z"⟩
abbrev cX12_swapNumbers : ByteArray := prog_14_method_31_code
def yX12_swapNumbers : MethodName := ⟨RX12, "swapNumbers", "([III)V"⟩
abbrev cX12_swapAll : ByteArray := prog_14_method_32_code
def yX12_swapAll : MethodName := ⟨RX12, "swapAll", "(II)V"⟩
abbrev cX12_comesTold : ByteArray := prog_14_method_33_code
def yX12_comesTold : MethodName := ⟨RX12, "comesTold", "(I)Z"⟩
abbrev cX12_bath : ByteArray := prog_14_method_34_code
def yX12_bath : MethodName := ⟨RX12, "bath", "(I)I"⟩
abbrev cX12_carry : ByteArray := prog_14_method_35_code
def yX12_carry : MethodName := ⟨RX12, "carry", "(I)I"⟩
abbrev cX12_carryAll : ByteArray := prog_14_method_36_code
def yX12_carryAll : MethodName := ⟨RX12, "carryAll", "([IZ)V"⟩
abbrev cX12_open : ByteArray := prog_14_method_37_code
def yX12_open : MethodName := ⟨RX12, "open", "()V"⟩
abbrev cX12_close : ByteArray := prog_14_method_38_code
def yX12_close : MethodName := ⟨RX12, "close", "()V"⟩
abbrev cX12_image : ByteArray := prog_14_method_39_code
def yX12_image : MethodName := ⟨RX12, "image", "()I"⟩
abbrev cX12_restore : ByteArray := prog_14_method_40_code
def yX12_restore : MethodName := ⟨RX12, "restore", "()I"⟩
abbrev cX12_child : ByteArray := prog_14_method_41_code
def yX12_child : MethodName := ⟨RX12, "child", "(II)I"⟩
abbrev cX12_wrongKept : ByteArray := prog_14_method_42_code
def yX12_wrongKept : MethodName := ⟨RX12, "wrongKept", "(I)I"⟩
abbrev cX12_comes : ByteArray := prog_14_method_43_code
def yX12_comes : MethodName := ⟨RX12, "comes", "(II)I"⟩
abbrev cX12_feels : ByteArray := prog_14_method_44_code
def yX12_feels : MethodName := ⟨RX12, "feels", "(III)I"⟩
abbrev cX12_minute : ByteArray := prog_14_method_45_code
def yX12_minute : MethodName := ⟨RX12, "minute", "(II)I"⟩
abbrev cX12_change : ByteArray := prog_14_method_46_code
def yX12_change : MethodName := ⟨RX12, "change", "(II)I"⟩
abbrev cX12_rest : ByteArray := prog_14_method_47_code
def yX12_rest : MethodName := ⟨RX12, "rest", "(I)I"⟩
abbrev cX12_readyBits : ByteArray := prog_14_method_48_code
def yX12_readyBits : MethodName := ⟨RX12, "readyBits", "()I"⟩
abbrev cX12_ready : ByteArray := prog_14_method_49_code
def yX12_ready : MethodName := ⟨RX12, "ready", "()I"⟩
abbrev cX12_behindWay : ByteArray := prog_14_method_50_code
def yX12_behindWay : MethodName := ⟨RX12, "behindWay", "(III)I"⟩
abbrev cX12_layFewest : ByteArray := prog_14_method_51_code
def yX12_layFewest : MethodName := ⟨RX12, "layFewest", "(II)V"⟩
abbrev cX12_stateOf : ByteArray := prog_14_method_52_code
def yX12_stateOf : MethodName := ⟨RX12, "stateOf", "(I)I"⟩
abbrev cX12_aloneFrom : ByteArray := prog_14_method_53_code
def yX12_aloneFrom : MethodName := ⟨RX12, "aloneFrom", "(II)I"⟩
abbrev cX12_alone : ByteArray := prog_14_method_54_code
def yX12_alone : MethodName := ⟨RX12, "alone", "(II)I"⟩
abbrev cX12_neverHeld : ByteArray := prog_14_method_55_code
def yX12_neverHeld : MethodName := ⟨RX12, "neverHeld", "(I)I"⟩
abbrev cX12_keepStage : ByteArray := prog_14_method_56_code
def yX12_keepStage : MethodName := ⟨RX12, "keepStage", "(I)V"⟩
abbrev cX12_toStage : ByteArray := prog_14_method_57_code
def yX12_toStage : MethodName := ⟨RX12, "toStage", "(I)V"⟩
abbrev cX12_nextChoice : ByteArray := prog_14_method_58_code
def yX12_nextChoice : MethodName := ⟨RX12, "nextChoice", "(I)I"⟩
abbrev cX12_layMost : ByteArray := prog_14_method_59_code
def yX12_layMost : MethodName := ⟨RX12, "layMost", "(I)V"⟩
abbrev cX12_mostSteps : ByteArray := prog_14_method_60_code
def yX12_mostSteps : MethodName := ⟨RX12, "mostSteps", "(II)I"⟩
abbrev cX12_nextTurn : ByteArray := prog_14_method_61_code
def yX12_nextTurn : MethodName := ⟨RX12, "nextTurn", "()I"⟩
abbrev cX12_byTurns : ByteArray := prog_14_method_62_code
def yX12_byTurns : MethodName := ⟨RX12, "byTurns", "(II)I"⟩
abbrev cX12_allSwim : ByteArray := prog_14_method_63_code
def yX12_allSwim : MethodName := ⟨RX12, "allSwim", "()I"⟩
abbrev cX12_ordersOf : ByteArray := prog_14_method_64_code
def yX12_ordersOf : MethodName := ⟨RX12, "ordersOf", "(I)I"⟩
abbrev cX12_layOrder : ByteArray := prog_14_method_65_code
def yX12_layOrder : MethodName := ⟨RX12, "layOrder", "(II)V"⟩
abbrev cX12_beside : ByteArray := prog_14_method_66_code
def yX12_beside : MethodName := ⟨RX12, "beside", "(I)I"⟩
abbrev cX12_helps : ByteArray := prog_14_method_67_code
def yX12_helps : MethodName := ⟨RX12, "helps", "()I"⟩
abbrev cX12_costs : ByteArray := prog_14_method_68_code
def yX12_costs : MethodName := ⟨RX12, "costs", "(I)I"⟩
abbrev cX12_bands : ByteArray := prog_14_method_69_code
def yX12_bands : MethodName := ⟨RX12, "bands", "(III)I"⟩
abbrev cX12_divisor : ByteArray := prog_14_method_70_code
def yX12_divisor : MethodName := ⟨RX12, "divisor", "(JJ)J"⟩
abbrev cX12_partOf : ByteArray := prog_14_method_71_code
def yX12_partOf : MethodName := ⟨RX12, "partOf", "(JJI)J"⟩
abbrev cX12_frights : ByteArray := prog_14_method_72_code
def yX12_frights : MethodName := ⟨RX12, "frights", "(IIIII)J"⟩
abbrev cX12_was : ByteArray := prog_14_method_73_code
def yX12_was : MethodName := ⟨RX12, "was", "(IIII)I"⟩
abbrev cX12_daresOf : ByteArray := prog_14_method_74_code
def yX12_daresOf : MethodName := ⟨RX12, "daresOf", "(III)I"⟩
abbrev cX12_dare : ByteArray := prog_14_method_75_code
def yX12_dare : MethodName := ⟨RX12, "dare", "(II)I"⟩
abbrev cX12_group : ByteArray := prog_14_method_76_code
def yX12_group : MethodName := ⟨RX12, "group", "(II)I"⟩
abbrev cX12_forget : ByteArray := prog_14_method_77_code
def yX12_forget : MethodName := ⟨RX12, "forget", "()I"⟩
abbrev cX12_coldest : ByteArray := prog_14_method_78_code
def yX12_coldest : MethodName := ⟨RX12, "coldest", "(II)I"⟩
abbrev cX12_last : ByteArray := prog_14_method_79_code
def yX12_last : MethodName := ⟨RX12, "last", "()I"⟩
abbrev cX12_mean : ByteArray := prog_14_method_80_code
def yX12_mean : MethodName := ⟨RX12, "mean", "(I)J"⟩
abbrev cX12_forged : ByteArray := prog_14_method_81_code
def yX12_forged : MethodName := ⟨RX12, "forged", "(I)I"⟩
abbrev cX12_skipped : ByteArray := prog_14_method_82_code
def yX12_skipped : MethodName := ⟨RX12, "skipped", "(I)J"⟩
abbrev cX12_judge : ByteArray := prog_14_method_83_code
def yX12_judge : MethodName := ⟨RX12, "judge", "(II)I"⟩
abbrev cX12_drawBelow : ByteArray := prog_14_method_84_code
def yX12_drawBelow : MethodName := ⟨RX12, "drawBelow", "(I)I"⟩
abbrev cX12_weeks : ByteArray := prog_14_method_85_code
def yX12_weeks : MethodName := ⟨RX12, "weeks", "(III)I"⟩
abbrev cX12_count : ByteArray := prog_14_method_86_code
def yX12_count : MethodName := ⟨RX12, "count", "(I)I"⟩
abbrev cX12_keep : ByteArray := prog_14_method_87_code
def yX12_keep : MethodName := ⟨RX12, "keep", "(IIII)I"⟩
abbrev cX12_wrongRow : ByteArray := prog_14_method_88_code
def yX12_wrongRow : MethodName := ⟨RX12, "wrongRow", "(I)I"⟩
abbrev cX12_narrowed : ByteArray := prog_14_method_89_code
def yX12_narrowed : MethodName := ⟨RX12, "narrowed", "(II)J"⟩
abbrev cX12_row : ByteArray := prog_14_method_90_code
def yX12_row : MethodName := ⟨RX12, "row", "(III)I"⟩
abbrev cX12_put : ByteArray := prog_14_method_91_code
def yX12_put : MethodName := ⟨RX12, "put", "(III)I"⟩
abbrev cX12_element : ByteArray := prog_14_method_92_code
def yX12_element : MethodName := ⟨RX12, "element", "(II)J"⟩
abbrev cX12_copy : ByteArray := prog_14_method_93_code
def yX12_copy : MethodName := ⟨RX12, "copy", "(IIIII)I"⟩
abbrev cX12_costOf : ByteArray := prog_14_method_94_code
def yX12_costOf : MethodName := ⟨RX12, "costOf", "(II)I"⟩
abbrev cX12_cost : ByteArray := prog_14_method_95_code
def yX12_cost : MethodName := ⟨RX12, "cost", "(I)I"⟩
abbrev cX12_toss : ByteArray := prog_14_method_96_code
def yX12_toss : MethodName := ⟨RX12, "toss", "(I)I"⟩
def RJ6 : String := "java/lang/Integer"
abbrev cJ6_bitCount_0f7a4 : ByteArray := prog_18_method_49_code
def yJ6_bitCount_0f7a4 : MethodName := ⟨RJ6, "bitCount", "(I)I"⟩
def RJ9 : String := "java/lang/Math"
def RJ7 : String := "java/util/Arrays"
abbrev cJ7_fill_53178 : ByteArray := prog_25_method_103_code
def yJ7_fill_53178 : MethodName := ⟨RJ7, "fill", "([II)V"⟩
def RL : String := "HandUnderTheChinLaw"
abbrev cL_element : ByteArray := method_3_code
def yL_element : MethodName := ⟨RL, "element", "(LHandUnderTheChin;II[J)I"⟩
abbrev cL_law : ByteArray := code
def yL_law : MethodName := ⟨RL, "law", "([I)Z"⟩
abbrev vwCl : List vw_C := [(RX0, TX0, 8), (RX1, TX1, 8), (RX2, TX2, 8), (RX3, TX3, 8), (RX4, TX4, 8), (RX5, TX5, 4), (RX6, TX6, 8), (RX7, TX7, 5), (RX8, TX8, 2), (RX9, TX9, 8), (RX10, TX10, 8), (RX11, TX11, 13), (RX12, TX12, 37)]
end
section
theorem dX0_init_0 : decode cX0_init 0 = .ok (.aload_n 0, 1) := by decide +kernel
theorem dX0_init_1 : decode cX0_init 1 = .ok (.iload_n 1, 1) := by decide +kernel
theorem dX0_init_2 : decode cX0_init 2 = .ok (.invokespecial 3, 3) := by decide +kernel
theorem dX0_init_5 : decode cX0_init 5 = .ok (.aload_n 0, 1) := by decide +kernel
theorem dX0_init_6 : decode cX0_init 6 = .ok (.iconst 1, 1) := by decide +kernel
theorem dX0_init_7 : decode cX0_init 7 = .ok (.putfield 9, 3) := by decide +kernel
theorem dX0_init_10 : decode cX0_init 10 = .ok (.aload_n 0, 1) := by decide +kernel
theorem dX0_init_11 : decode cX0_init 11 = .ok (.dup, 1) := by decide +kernel
theorem dX0_init_12 : decode cX0_init 12 = .ok (.getfield 15, 3) := by decide +kernel
theorem dX0_init_15 : decode cX0_init 15 = .ok (.iconst 1, 1) := by decide +kernel
theorem dX0_init_16 : decode cX0_init 16 = .ok (.isub, 1) := by decide +kernel
theorem dX0_init_17 : decode cX0_init 17 = .ok (.putfield 15, 3) := by decide +kernel
theorem dX0_init_20 : decode cX0_init 20 = .ok (.aload_n 0, 1) := by decide +kernel
theorem dX0_init_21 : decode cX0_init 21 = .ok (.dup, 1) := by decide +kernel
theorem dX0_init_22 : decode cX0_init 22 = .ok (.getfield 18, 3) := by decide +kernel
theorem dX0_init_25 : decode cX0_init 25 = .ok (.iconst 1, 1) := by decide +kernel
theorem dX0_init_26 : decode cX0_init 26 = .ok (.isub, 1) := by decide +kernel
theorem dX0_init_27 : decode cX0_init 27 = .ok (.putfield 18, 3) := by decide +kernel
theorem dX0_init_30 : decode cX0_init 30 = .ok (.aload_n 0, 1) := by decide +kernel
theorem dX0_init_31 : decode cX0_init 31 = .ok (.dup, 1) := by decide +kernel
theorem dX0_init_32 : decode cX0_init 32 = .ok (.getfield 21, 3) := by decide +kernel
theorem dX0_init_35 : decode cX0_init 35 = .ok (.iload_n 1, 1) := by decide +kernel
theorem dX0_init_36 : decode cX0_init 36 = .ok (.iadd, 1) := by decide +kernel
theorem dX0_init_37 : decode cX0_init 37 = .ok (.putfield 21, 3) := by decide +kernel
theorem dX0_init_40 : decode cX0_init 40 = .ok (.aload_n 0, 1) := by decide +kernel
theorem dX0_init_41 : decode cX0_init 41 = .ok (.dup, 1) := by decide +kernel
theorem dX0_init_42 : decode cX0_init 42 = .ok (.getfield 24, 3) := by decide +kernel
theorem dX0_init_45 : decode cX0_init 45 = .ok (.iload_n 1, 1) := by decide +kernel
theorem dX0_init_46 : decode cX0_init 46 = .ok (.iadd, 1) := by decide +kernel
theorem dX0_init_47 : decode cX0_init 47 = .ok (.putfield 24, 3) := by decide +kernel
theorem dX0_init_50 : decode cX0_init 50 = .ok (.iconst 0, 1) := by decide +kernel
theorem dX0_init_51 : decode cX0_init 51 = .ok (.istore_n 2, 1) := by decide +kernel
theorem dX0_init_52 : decode cX0_init 52 = .ok (.iload_n 2, 1) := by decide +kernel
theorem dX0_init_53 : decode cX0_init 53 = .ok (.bipush 7, 2) := by decide +kernel
theorem dX0_init_55 : decode cX0_init 55 = .ok (.if_icmp .ge 19, 3) := by decide +kernel
theorem dX0_init_58 : decode cX0_init 58 = .ok (.aload_n 0, 1) := by decide +kernel
theorem dX0_init_59 : decode cX0_init 59 = .ok (.getfield 27, 3) := by decide +kernel
theorem dX0_init_62 : decode cX0_init 62 = .ok (.iload_n 2, 1) := by decide +kernel
theorem dX0_init_63 : decode cX0_init 63 = .ok (.dup2, 1) := by decide +kernel
theorem dX0_init_64 : decode cX0_init 64 = .ok (.iaload, 1) := by decide +kernel
theorem dX0_init_65 : decode cX0_init 65 = .ok (.iconst 2, 1) := by decide +kernel
theorem dX0_init_66 : decode cX0_init 66 = .ok (.isub, 1) := by decide +kernel
theorem dX0_init_67 : decode cX0_init 67 = .ok (.iastore, 1) := by decide +kernel
theorem dX0_init_68 : decode cX0_init 68 = .ok (.iinc 2 1, 3) := by decide +kernel
theorem dX0_init_71 : decode cX0_init 71 = .ok (.goto (-19), 3) := by decide +kernel
theorem dX0_init_74 : decode cX0_init 74 = .ok (.return_, 1) := by decide +kernel
theorem dX0_fail_0 : decode cX0_fail 0 = .ok (.aload_n 0, 1) := by decide +kernel
theorem dX0_fail_1 : decode cX0_fail 1 = .ok (.getfield 31, 3) := by decide +kernel
theorem dX0_fail_4 : decode cX0_fail 4 = .ok (.ifCond .eq 13, 3) := by decide +kernel
theorem dX0_fail_7 : decode cX0_fail 7 = .ok (.new 34, 3) := by decide +kernel
theorem dX0_fail_10 : decode cX0_fail 10 = .ok (.dup, 1) := by decide +kernel
theorem dX0_fail_11 : decode cX0_fail 11 = .ok (.ldc 36, 2) := by decide +kernel
theorem dX0_fail_13 : decode cX0_fail 13 = .ok (.invokespecial 38, 3) := by decide +kernel
theorem dX0_fail_16 : decode cX0_fail 16 = .ok (.athrow, 1) := by decide +kernel
theorem dX0_fail_17 : decode cX0_fail 17 = .ok (.return_, 1) := by decide +kernel
theorem dX1_init_0 : decode cX1_init 0 = .ok (.aload_n 0, 1) := by decide +kernel
theorem dX1_init_1 : decode cX1_init 1 = .ok (.invokespecial 3, 3) := by decide +kernel
theorem dX1_init_4 : decode cX1_init 4 = .ok (.aload_n 0, 1) := by decide +kernel
theorem dX1_init_5 : decode cX1_init 5 = .ok (.bipush 8, 2) := by decide +kernel
theorem dX1_init_7 : decode cX1_init 7 = .ok (.newarray .int, 2) := by decide +kernel
theorem dX1_init_9 : decode cX1_init 9 = .ok (.putfield 9, 3) := by decide +kernel
theorem dX1_init_12 : decode cX1_init 12 = .ok (.aload_n 0, 1) := by decide +kernel
theorem dX1_init_13 : decode cX1_init 13 = .ok (.iload_n 1, 1) := by decide +kernel
theorem dX1_init_14 : decode cX1_init 14 = .ok (.putfield 15, 3) := by decide +kernel
theorem dX1_init_17 : decode cX1_init 17 = .ok (.aload_n 0, 1) := by decide +kernel
theorem dX1_init_18 : decode cX1_init 18 = .ok (.iconst 0, 1) := by decide +kernel
theorem dX1_init_19 : decode cX1_init 19 = .ok (.putfield 19, 3) := by decide +kernel
theorem dX1_init_22 : decode cX1_init 22 = .ok (.aload_n 0, 1) := by decide +kernel
theorem dX1_init_23 : decode cX1_init 23 = .ok (.iconst 2, 1) := by decide +kernel
theorem dX1_init_24 : decode cX1_init 24 = .ok (.putfield 22, 3) := by decide +kernel
theorem dX1_init_27 : decode cX1_init 27 = .ok (.aload_n 0, 1) := by decide +kernel
theorem dX1_init_28 : decode cX1_init 28 = .ok (.iconst 3, 1) := by decide +kernel
theorem dX1_init_29 : decode cX1_init 29 = .ok (.putfield 25, 3) := by decide +kernel
theorem dX1_init_32 : decode cX1_init 32 = .ok (.aload_n 0, 1) := by decide +kernel
theorem dX1_init_33 : decode cX1_init 33 = .ok (.iconst 5, 1) := by decide +kernel
theorem dX1_init_34 : decode cX1_init 34 = .ok (.putfield 28, 3) := by decide +kernel
theorem dX1_init_37 : decode cX1_init 37 = .ok (.aload_n 0, 1) := by decide +kernel
theorem dX1_init_38 : decode cX1_init 38 = .ok (.iconst 1, 1) := by decide +kernel
theorem dX1_init_39 : decode cX1_init 39 = .ok (.putfield 31, 3) := by decide +kernel
theorem dX1_init_42 : decode cX1_init 42 = .ok (.aload_n 0, 1) := by decide +kernel
theorem dX1_init_43 : decode cX1_init 43 = .ok (.iconst 5, 1) := by decide +kernel
theorem dX1_init_44 : decode cX1_init 44 = .ok (.putfield 34, 3) := by decide +kernel
theorem dX1_init_47 : decode cX1_init 47 = .ok (.iconst 0, 1) := by decide +kernel
theorem dX1_init_48 : decode cX1_init 48 = .ok (.istore_n 2, 1) := by decide +kernel
theorem dX1_init_49 : decode cX1_init 49 = .ok (.iload_n 2, 1) := by decide +kernel
theorem dX1_init_50 : decode cX1_init 50 = .ok (.bipush 7, 2) := by decide +kernel
theorem dX1_init_52 : decode cX1_init 52 = .ok (.if_icmp .ge 18, 3) := by decide +kernel
theorem dX1_init_55 : decode cX1_init 55 = .ok (.aload_n 0, 1) := by decide +kernel
theorem dX1_init_56 : decode cX1_init 56 = .ok (.getfield 9, 3) := by decide +kernel
theorem dX1_init_59 : decode cX1_init 59 = .ok (.iload_n 2, 1) := by decide +kernel
theorem dX1_init_60 : decode cX1_init 60 = .ok (.iload_n 2, 1) := by decide +kernel
theorem dX1_init_61 : decode cX1_init 61 = .ok (.iconst 4, 1) := by decide +kernel
theorem dX1_init_62 : decode cX1_init 62 = .ok (.iadd, 1) := by decide +kernel
theorem dX1_init_63 : decode cX1_init 63 = .ok (.iastore, 1) := by decide +kernel
theorem dX1_init_64 : decode cX1_init 64 = .ok (.iinc 2 1, 3) := by decide +kernel
theorem dX1_init_67 : decode cX1_init 67 = .ok (.goto (-18), 3) := by decide +kernel
theorem dX1_init_70 : decode cX1_init 70 = .ok (.return_, 1) := by decide +kernel
theorem dX1_of_0 : decode cX1_of 0 = .ok (.iload_n 0, 1) := by decide +kernel
theorem dX1_of_1 : decode cX1_of 1 = .ok (.tableswitch 106 1 7 #[43, 52, 61, 70, 79, 88, 97], 43) := by decide +kernel
theorem dX1_of_44 : decode cX1_of 44 = .ok (.new 37, 3) := by decide +kernel
theorem dX1_of_47 : decode cX1_of 47 = .ok (.dup, 1) := by decide +kernel
theorem dX1_of_48 : decode cX1_of 48 = .ok (.iload_n 1, 1) := by decide +kernel
theorem dX1_of_49 : decode cX1_of 49 = .ok (.invokespecial 39, 3) := by decide +kernel
theorem dX1_of_52 : decode cX1_of 52 = .ok (.areturn, 1) := by decide +kernel
theorem dX1_of_53 : decode cX1_of 53 = .ok (.new 42, 3) := by decide +kernel
theorem dX1_of_56 : decode cX1_of 56 = .ok (.dup, 1) := by decide +kernel
theorem dX1_of_57 : decode cX1_of 57 = .ok (.iload_n 1, 1) := by decide +kernel
theorem dX1_of_58 : decode cX1_of 58 = .ok (.invokespecial 44, 3) := by decide +kernel
theorem dX1_of_61 : decode cX1_of 61 = .ok (.areturn, 1) := by decide +kernel
theorem dX1_of_62 : decode cX1_of 62 = .ok (.new 45, 3) := by decide +kernel
theorem dX1_of_65 : decode cX1_of 65 = .ok (.dup, 1) := by decide +kernel
theorem dX1_of_66 : decode cX1_of 66 = .ok (.iload_n 1, 1) := by decide +kernel
theorem dX1_of_67 : decode cX1_of 67 = .ok (.invokespecial 47, 3) := by decide +kernel
theorem dX1_of_70 : decode cX1_of 70 = .ok (.areturn, 1) := by decide +kernel
theorem dX1_of_71 : decode cX1_of 71 = .ok (.new 48, 3) := by decide +kernel
theorem dX1_of_74 : decode cX1_of 74 = .ok (.dup, 1) := by decide +kernel
theorem dX1_of_75 : decode cX1_of 75 = .ok (.iload_n 1, 1) := by decide +kernel
theorem dX1_of_76 : decode cX1_of 76 = .ok (.invokespecial 50, 3) := by decide +kernel
theorem dX1_of_79 : decode cX1_of 79 = .ok (.areturn, 1) := by decide +kernel
theorem dX1_of_80 : decode cX1_of 80 = .ok (.new 51, 3) := by decide +kernel
theorem dX1_of_83 : decode cX1_of 83 = .ok (.dup, 1) := by decide +kernel
theorem dX1_of_84 : decode cX1_of 84 = .ok (.iload_n 1, 1) := by decide +kernel
theorem dX1_of_85 : decode cX1_of 85 = .ok (.invokespecial 53, 3) := by decide +kernel
theorem dX1_of_88 : decode cX1_of 88 = .ok (.areturn, 1) := by decide +kernel
theorem dX1_of_89 : decode cX1_of 89 = .ok (.new 54, 3) := by decide +kernel
theorem dX1_of_92 : decode cX1_of 92 = .ok (.dup, 1) := by decide +kernel
theorem dX1_of_93 : decode cX1_of 93 = .ok (.iload_n 1, 1) := by decide +kernel
theorem dX1_of_94 : decode cX1_of 94 = .ok (.invokespecial 56, 3) := by decide +kernel
theorem dX1_of_97 : decode cX1_of 97 = .ok (.areturn, 1) := by decide +kernel
theorem dX1_of_98 : decode cX1_of 98 = .ok (.new 57, 3) := by decide +kernel
theorem dX1_of_101 : decode cX1_of 101 = .ok (.dup, 1) := by decide +kernel
theorem dX1_of_102 : decode cX1_of 102 = .ok (.iload_n 1, 1) := by decide +kernel
theorem dX1_of_103 : decode cX1_of 103 = .ok (.invokespecial 59, 3) := by decide +kernel
theorem dX1_of_106 : decode cX1_of 106 = .ok (.areturn, 1) := by decide +kernel
theorem dX1_of_107 : decode cX1_of 107 = .ok (.new 10, 3) := by decide +kernel
theorem dX1_of_110 : decode cX1_of 110 = .ok (.dup, 1) := by decide +kernel
theorem dX1_of_111 : decode cX1_of 111 = .ok (.iload_n 1, 1) := by decide +kernel
theorem dX1_of_112 : decode cX1_of 112 = .ok (.invokespecial 60, 3) := by decide +kernel
theorem dX1_of_115 : decode cX1_of 115 = .ok (.areturn, 1) := by decide +kernel
theorem dX1_needsAt_0 : decode cX1_needsAt 0 = .ok (.iload_n 1, 1) := by decide +kernel
theorem dX1_needsAt_1 : decode cX1_needsAt 1 = .ok (.ifCond .lt 21, 3) := by decide +kernel
theorem dX1_needsAt_4 : decode cX1_needsAt 4 = .ok (.iload_n 1, 1) := by decide +kernel
theorem dX1_needsAt_5 : decode cX1_needsAt 5 = .ok (.aload_n 0, 1) := by decide +kernel
theorem dX1_needsAt_6 : decode cX1_needsAt 6 = .ok (.getfield 9, 3) := by decide +kernel
theorem dX1_needsAt_9 : decode cX1_needsAt 9 = .ok (.arraylength, 1) := by decide +kernel
theorem dX1_needsAt_10 : decode cX1_needsAt 10 = .ok (.if_icmp .ge 12, 3) := by decide +kernel
theorem dX1_needsAt_13 : decode cX1_needsAt 13 = .ok (.aload_n 0, 1) := by decide +kernel
theorem dX1_needsAt_14 : decode cX1_needsAt 14 = .ok (.getfield 9, 3) := by decide +kernel
theorem dX1_needsAt_17 : decode cX1_needsAt 17 = .ok (.iload_n 1, 1) := by decide +kernel
theorem dX1_needsAt_18 : decode cX1_needsAt 18 = .ok (.iaload, 1) := by decide +kernel
theorem dX1_needsAt_19 : decode cX1_needsAt 19 = .ok (.goto 4, 3) := by decide +kernel
theorem dX1_needsAt_22 : decode cX1_needsAt 22 = .ok (.iconst 0, 1) := by decide +kernel
theorem dX1_needsAt_23 : decode cX1_needsAt 23 = .ok (.ireturn, 1) := by decide +kernel
theorem dX1_fail_0 : decode cX1_fail 0 = .ok (.aload_n 0, 1) := by decide +kernel
theorem dX1_fail_1 : decode cX1_fail 1 = .ok (.getfield 15, 3) := by decide +kernel
theorem dX1_fail_4 : decode cX1_fail 4 = .ok (.ifCond .eq 13, 3) := by decide +kernel
theorem dX1_fail_7 : decode cX1_fail 7 = .ok (.new 61, 3) := by decide +kernel
theorem dX1_fail_10 : decode cX1_fail 10 = .ok (.dup, 1) := by decide +kernel
theorem dX1_fail_11 : decode cX1_fail 11 = .ok (.ldc 63, 2) := by decide +kernel
theorem dX1_fail_13 : decode cX1_fail 13 = .ok (.invokespecial 65, 3) := by decide +kernel
theorem dX1_fail_16 : decode cX1_fail 16 = .ok (.athrow, 1) := by decide +kernel
theorem dX1_fail_17 : decode cX1_fail 17 = .ok (.return_, 1) := by decide +kernel
theorem dX2_init_0 : decode cX2_init 0 = .ok (.aload_n 0, 1) := by decide +kernel
theorem dX2_init_1 : decode cX2_init 1 = .ok (.iload_n 1, 1) := by decide +kernel
theorem dX2_init_2 : decode cX2_init 2 = .ok (.invokespecial 3, 3) := by decide +kernel
theorem dX2_init_5 : decode cX2_init 5 = .ok (.aload_n 0, 1) := by decide +kernel
theorem dX2_init_6 : decode cX2_init 6 = .ok (.bipush 6, 2) := by decide +kernel
theorem dX2_init_8 : decode cX2_init 8 = .ok (.putfield 9, 3) := by decide +kernel
theorem dX2_init_11 : decode cX2_init 11 = .ok (.aload_n 0, 1) := by decide +kernel
theorem dX2_init_12 : decode cX2_init 12 = .ok (.dup, 1) := by decide +kernel
theorem dX2_init_13 : decode cX2_init 13 = .ok (.getfield 15, 3) := by decide +kernel
theorem dX2_init_16 : decode cX2_init 16 = .ok (.iload_n 1, 1) := by decide +kernel
theorem dX2_init_17 : decode cX2_init 17 = .ok (.iconst 3, 1) := by decide +kernel
theorem dX2_init_18 : decode cX2_init 18 = .ok (.idiv, 1) := by decide +kernel
theorem dX2_init_19 : decode cX2_init 19 = .ok (.iadd, 1) := by decide +kernel
theorem dX2_init_20 : decode cX2_init 20 = .ok (.putfield 15, 3) := by decide +kernel
theorem dX2_init_23 : decode cX2_init 23 = .ok (.aload_n 0, 1) := by decide +kernel
theorem dX2_init_24 : decode cX2_init 24 = .ok (.dup, 1) := by decide +kernel
theorem dX2_init_25 : decode cX2_init 25 = .ok (.getfield 18, 3) := by decide +kernel
theorem dX2_init_28 : decode cX2_init 28 = .ok (.iconst 2, 1) := by decide +kernel
theorem dX2_init_29 : decode cX2_init 29 = .ok (.imul, 1) := by decide +kernel
theorem dX2_init_30 : decode cX2_init 30 = .ok (.putfield 18, 3) := by decide +kernel
theorem dX2_init_33 : decode cX2_init 33 = .ok (.aload_n 0, 1) := by decide +kernel
theorem dX2_init_34 : decode cX2_init 34 = .ok (.dup, 1) := by decide +kernel
theorem dX2_init_35 : decode cX2_init 35 = .ok (.getfield 21, 3) := by decide +kernel
theorem dX2_init_38 : decode cX2_init 38 = .ok (.iload_n 1, 1) := by decide +kernel
theorem dX2_init_39 : decode cX2_init 39 = .ok (.iadd, 1) := by decide +kernel
theorem dX2_init_40 : decode cX2_init 40 = .ok (.putfield 21, 3) := by decide +kernel
theorem dX2_init_43 : decode cX2_init 43 = .ok (.iconst 0, 1) := by decide +kernel
theorem dX2_init_44 : decode cX2_init 44 = .ok (.istore_n 2, 1) := by decide +kernel
theorem dX2_init_45 : decode cX2_init 45 = .ok (.iload_n 2, 1) := by decide +kernel
theorem dX2_init_46 : decode cX2_init 46 = .ok (.bipush 7, 2) := by decide +kernel
theorem dX2_init_48 : decode cX2_init 48 = .ok (.if_icmp .ge 19, 3) := by decide +kernel
theorem dX2_init_51 : decode cX2_init 51 = .ok (.aload_n 0, 1) := by decide +kernel
theorem dX2_init_52 : decode cX2_init 52 = .ok (.getfield 24, 3) := by decide +kernel
theorem dX2_init_55 : decode cX2_init 55 = .ok (.iload_n 2, 1) := by decide +kernel
theorem dX2_init_56 : decode cX2_init 56 = .ok (.dup2, 1) := by decide +kernel
theorem dX2_init_57 : decode cX2_init 57 = .ok (.iaload, 1) := by decide +kernel
theorem dX2_init_58 : decode cX2_init 58 = .ok (.iconst 1, 1) := by decide +kernel
theorem dX2_init_59 : decode cX2_init 59 = .ok (.isub, 1) := by decide +kernel
theorem dX2_init_60 : decode cX2_init 60 = .ok (.iastore, 1) := by decide +kernel
theorem dX2_init_61 : decode cX2_init 61 = .ok (.iinc 2 1, 3) := by decide +kernel
theorem dX2_init_64 : decode cX2_init 64 = .ok (.goto (-19), 3) := by decide +kernel
theorem dX2_init_67 : decode cX2_init 67 = .ok (.return_, 1) := by decide +kernel
theorem dX3_init_0 : decode cX3_init 0 = .ok (.aload_n 0, 1) := by decide +kernel
theorem dX3_init_1 : decode cX3_init 1 = .ok (.iload_n 1, 1) := by decide +kernel
theorem dX3_init_2 : decode cX3_init 2 = .ok (.invokespecial 3, 3) := by decide +kernel
theorem dX3_init_5 : decode cX3_init 5 = .ok (.aload_n 0, 1) := by decide +kernel
theorem dX3_init_6 : decode cX3_init 6 = .ok (.bipush 7, 2) := by decide +kernel
theorem dX3_init_8 : decode cX3_init 8 = .ok (.putfield 9, 3) := by decide +kernel
theorem dX3_init_11 : decode cX3_init 11 = .ok (.aload_n 0, 1) := by decide +kernel
theorem dX3_init_12 : decode cX3_init 12 = .ok (.bipush 20, 2) := by decide +kernel
theorem dX3_init_14 : decode cX3_init 14 = .ok (.putfield 15, 3) := by decide +kernel
theorem dX3_init_17 : decode cX3_init 17 = .ok (.aload_n 0, 1) := by decide +kernel
theorem dX3_init_18 : decode cX3_init 18 = .ok (.dup, 1) := by decide +kernel
theorem dX3_init_19 : decode cX3_init 19 = .ok (.getfield 18, 3) := by decide +kernel
theorem dX3_init_22 : decode cX3_init 22 = .ok (.iconst 2, 1) := by decide +kernel
theorem dX3_init_23 : decode cX3_init 23 = .ok (.idiv, 1) := by decide +kernel
theorem dX3_init_24 : decode cX3_init 24 = .ok (.putfield 18, 3) := by decide +kernel
theorem dX3_init_27 : decode cX3_init 27 = .ok (.iconst 0, 1) := by decide +kernel
theorem dX3_init_28 : decode cX3_init 28 = .ok (.istore_n 2, 1) := by decide +kernel
theorem dX3_init_29 : decode cX3_init 29 = .ok (.iload_n 2, 1) := by decide +kernel
theorem dX3_init_30 : decode cX3_init 30 = .ok (.bipush 7, 2) := by decide +kernel
theorem dX3_init_32 : decode cX3_init 32 = .ok (.if_icmp .ge 19, 3) := by decide +kernel
theorem dX3_init_35 : decode cX3_init 35 = .ok (.aload_n 0, 1) := by decide +kernel
theorem dX3_init_36 : decode cX3_init 36 = .ok (.getfield 21, 3) := by decide +kernel
theorem dX3_init_39 : decode cX3_init 39 = .ok (.iload_n 2, 1) := by decide +kernel
theorem dX3_init_40 : decode cX3_init 40 = .ok (.dup2, 1) := by decide +kernel
theorem dX3_init_41 : decode cX3_init 41 = .ok (.iaload, 1) := by decide +kernel
theorem dX3_init_42 : decode cX3_init 42 = .ok (.iconst 2, 1) := by decide +kernel
theorem dX3_init_43 : decode cX3_init 43 = .ok (.idiv, 1) := by decide +kernel
theorem dX3_init_44 : decode cX3_init 44 = .ok (.iastore, 1) := by decide +kernel
theorem dX3_init_45 : decode cX3_init 45 = .ok (.iinc 2 1, 3) := by decide +kernel
theorem dX3_init_48 : decode cX3_init 48 = .ok (.goto (-19), 3) := by decide +kernel
theorem dX3_init_51 : decode cX3_init 51 = .ok (.return_, 1) := by decide +kernel
theorem dX3_fail_0 : decode cX3_fail 0 = .ok (.aload_n 0, 1) := by decide +kernel
theorem dX3_fail_1 : decode cX3_fail 1 = .ok (.getfield 25, 3) := by decide +kernel
theorem dX3_fail_4 : decode cX3_fail 4 = .ok (.ifCond .eq 13, 3) := by decide +kernel
theorem dX3_fail_7 : decode cX3_fail 7 = .ok (.new 28, 3) := by decide +kernel
theorem dX3_fail_10 : decode cX3_fail 10 = .ok (.dup, 1) := by decide +kernel
theorem dX3_fail_11 : decode cX3_fail 11 = .ok (.ldc 30, 2) := by decide +kernel
theorem dX3_fail_13 : decode cX3_fail 13 = .ok (.invokespecial 32, 3) := by decide +kernel
theorem dX3_fail_16 : decode cX3_fail 16 = .ok (.athrow, 1) := by decide +kernel
theorem dX3_fail_17 : decode cX3_fail 17 = .ok (.return_, 1) := by decide +kernel
theorem dX4_init_0 : decode cX4_init 0 = .ok (.aload_n 0, 1) := by decide +kernel
theorem dX4_init_1 : decode cX4_init 1 = .ok (.iload_n 1, 1) := by decide +kernel
theorem dX4_init_2 : decode cX4_init 2 = .ok (.invokespecial 1, 3) := by decide +kernel
theorem dX4_init_5 : decode cX4_init 5 = .ok (.aload_n 0, 1) := by decide +kernel
theorem dX4_init_6 : decode cX4_init 6 = .ok (.iconst 5, 1) := by decide +kernel
theorem dX4_init_7 : decode cX4_init 7 = .ok (.putfield 7, 3) := by decide +kernel
theorem dX4_init_10 : decode cX4_init 10 = .ok (.aload_n 0, 1) := by decide +kernel
theorem dX4_init_11 : decode cX4_init 11 = .ok (.dup, 1) := by decide +kernel
theorem dX4_init_12 : decode cX4_init 12 = .ok (.getfield 13, 3) := by decide +kernel
theorem dX4_init_15 : decode cX4_init 15 = .ok (.iconst 2, 1) := by decide +kernel
theorem dX4_init_16 : decode cX4_init 16 = .ok (.iadd, 1) := by decide +kernel
theorem dX4_init_17 : decode cX4_init 17 = .ok (.putfield 13, 3) := by decide +kernel
theorem dX4_init_20 : decode cX4_init 20 = .ok (.aload_n 0, 1) := by decide +kernel
theorem dX4_init_21 : decode cX4_init 21 = .ok (.dup, 1) := by decide +kernel
theorem dX4_init_22 : decode cX4_init 22 = .ok (.getfield 16, 3) := by decide +kernel
theorem dX4_init_25 : decode cX4_init 25 = .ok (.iconst 4, 1) := by decide +kernel
theorem dX4_init_26 : decode cX4_init 26 = .ok (.iadd, 1) := by decide +kernel
theorem dX4_init_27 : decode cX4_init 27 = .ok (.putfield 16, 3) := by decide +kernel
theorem dX4_init_30 : decode cX4_init 30 = .ok (.return_, 1) := by decide +kernel
theorem dX5_init_0 : decode cX5_init 0 = .ok (.aload_n 0, 1) := by decide +kernel
theorem dX5_init_1 : decode cX5_init 1 = .ok (.invokespecial 3, 3) := by decide +kernel
theorem dX5_init_4 : decode cX5_init 4 = .ok (.aload_n 0, 1) := by decide +kernel
theorem dX5_init_5 : decode cX5_init 5 = .ok (.aload_n 1, 1) := by decide +kernel
theorem dX5_init_6 : decode cX5_init 6 = .ok (.putfield 9, 3) := by decide +kernel
theorem dX5_init_9 : decode cX5_init 9 = .ok (.return_, 1) := by decide +kernel
theorem dX5_setTo_0 : decode cX5_setTo 0 = .ok (.aload_n 0, 1) := by decide +kernel
theorem dX5_setTo_1 : decode cX5_setTo 1 = .ok (.aload_n 1, 1) := by decide +kernel
theorem dX5_setTo_2 : decode cX5_setTo 2 = .ok (.getfield 9, 3) := by decide +kernel
theorem dX5_setTo_5 : decode cX5_setTo 5 = .ok (.putfield 9, 3) := by decide +kernel
theorem dX5_setTo_8 : decode cX5_setTo 8 = .ok (.aload_n 0, 1) := by decide +kernel
theorem dX5_setTo_9 : decode cX5_setTo 9 = .ok (.aload_n 1, 1) := by decide +kernel
theorem dX5_setTo_10 : decode cX5_setTo 10 = .ok (.getfield 15, 3) := by decide +kernel
theorem dX5_setTo_13 : decode cX5_setTo 13 = .ok (.putfield 15, 3) := by decide +kernel
theorem dX5_setTo_16 : decode cX5_setTo 16 = .ok (.aload_n 0, 1) := by decide +kernel
theorem dX5_setTo_17 : decode cX5_setTo 17 = .ok (.aload_n 1, 1) := by decide +kernel
theorem dX5_setTo_18 : decode cX5_setTo 18 = .ok (.getfield 19, 3) := by decide +kernel
theorem dX5_setTo_21 : decode cX5_setTo 21 = .ok (.putfield 19, 3) := by decide +kernel
theorem dX5_setTo_24 : decode cX5_setTo 24 = .ok (.aload_n 0, 1) := by decide +kernel
theorem dX5_setTo_25 : decode cX5_setTo 25 = .ok (.aload_n 1, 1) := by decide +kernel
theorem dX5_setTo_26 : decode cX5_setTo 26 = .ok (.getfield 22, 3) := by decide +kernel
theorem dX5_setTo_29 : decode cX5_setTo 29 = .ok (.putfield 22, 3) := by decide +kernel
theorem dX5_setTo_32 : decode cX5_setTo 32 = .ok (.return_, 1) := by decide +kernel
theorem dX5_swims_0 : decode cX5_swims 0 = .ok (.aload_n 0, 1) := by decide +kernel
theorem dX5_swims_1 : decode cX5_swims 1 = .ok (.getfield 19, 3) := by decide +kernel
theorem dX5_swims_4 : decode cX5_swims 4 = .ok (.bipush 7, 2) := by decide +kernel
theorem dX5_swims_6 : decode cX5_swims 6 = .ok (.if_icmp .lt 7, 3) := by decide +kernel
theorem dX5_swims_9 : decode cX5_swims 9 = .ok (.iconst 1, 1) := by decide +kernel
theorem dX5_swims_10 : decode cX5_swims 10 = .ok (.goto 4, 3) := by decide +kernel
theorem dX5_swims_13 : decode cX5_swims 13 = .ok (.iconst 0, 1) := by decide +kernel
theorem dX5_swims_14 : decode cX5_swims 14 = .ok (.ireturn, 1) := by decide +kernel
theorem dX5_needs_0 : decode cX5_needs 0 = .ok (.aload_n 0, 1) := by decide +kernel
theorem dX5_needs_1 : decode cX5_needs 1 = .ok (.getfield 9, 3) := by decide +kernel
theorem dX5_needs_4 : decode cX5_needs 4 = .ok (.aload_n 0, 1) := by decide +kernel
theorem dX5_needs_5 : decode cX5_needs 5 = .ok (.getfield 19, 3) := by decide +kernel
theorem dX5_needs_8 : decode cX5_needs 8 = .ok (.invokevirtual 25, 3) := by decide +kernel
theorem dX5_needs_11 : decode cX5_needs 11 = .ok (.ireturn, 1) := by decide +kernel
theorem dX5_isReady_0 : decode cX5_isReady 0 = .ok (.aload_n 0, 1) := by decide +kernel
theorem dX5_isReady_1 : decode cX5_isReady 1 = .ok (.invokevirtual 31, 3) := by decide +kernel
theorem dX5_isReady_4 : decode cX5_isReady 4 = .ok (.ifCond .ne 25, 3) := by decide +kernel
theorem dX5_isReady_7 : decode cX5_isReady 7 = .ok (.aload_n 0, 1) := by decide +kernel
theorem dX5_isReady_8 : decode cX5_isReady 8 = .ok (.getfield 15, 3) := by decide +kernel
theorem dX5_isReady_11 : decode cX5_isReady 11 = .ok (.aload_n 0, 1) := by decide +kernel
theorem dX5_isReady_12 : decode cX5_isReady 12 = .ok (.getfield 9, 3) := by decide +kernel
theorem dX5_isReady_15 : decode cX5_isReady 15 = .ok (.aload_n 0, 1) := by decide +kernel
theorem dX5_isReady_16 : decode cX5_isReady 16 = .ok (.getfield 19, 3) := by decide +kernel
theorem dX5_isReady_19 : decode cX5_isReady 19 = .ok (.invokevirtual 25, 3) := by decide +kernel
theorem dX5_isReady_22 : decode cX5_isReady 22 = .ok (.if_icmp .lt 7, 3) := by decide +kernel
theorem dX5_isReady_25 : decode cX5_isReady 25 = .ok (.iconst 1, 1) := by decide +kernel
theorem dX5_isReady_26 : decode cX5_isReady 26 = .ok (.goto 4, 3) := by decide +kernel
theorem dX5_isReady_29 : decode cX5_isReady 29 = .ok (.iconst 0, 1) := by decide +kernel
theorem dX5_isReady_30 : decode cX5_isReady 30 = .ok (.ireturn, 1) := by decide +kernel
theorem dX5_isBehind_0 : decode cX5_isBehind 0 = .ok (.aload_n 0, 1) := by decide +kernel
theorem dX5_isBehind_1 : decode cX5_isBehind 1 = .ok (.getfield 19, 3) := by decide +kernel
theorem dX5_isBehind_4 : decode cX5_isBehind 4 = .ok (.aload_n 1, 1) := by decide +kernel
theorem dX5_isBehind_5 : decode cX5_isBehind 5 = .ok (.getfield 19, 3) := by decide +kernel
theorem dX5_isBehind_8 : decode cX5_isBehind 8 = .ok (.if_icmp .lt 25, 3) := by decide +kernel
theorem dX5_isBehind_11 : decode cX5_isBehind 11 = .ok (.aload_n 0, 1) := by decide +kernel
theorem dX5_isBehind_12 : decode cX5_isBehind 12 = .ok (.getfield 19, 3) := by decide +kernel
theorem dX5_isBehind_15 : decode cX5_isBehind 15 = .ok (.aload_n 1, 1) := by decide +kernel
theorem dX5_isBehind_16 : decode cX5_isBehind 16 = .ok (.getfield 19, 3) := by decide +kernel
theorem dX5_isBehind_19 : decode cX5_isBehind 19 = .ok (.if_icmp .ne 18, 3) := by decide +kernel
theorem dX5_isBehind_22 : decode cX5_isBehind 22 = .ok (.aload_n 0, 1) := by decide +kernel
theorem dX5_isBehind_23 : decode cX5_isBehind 23 = .ok (.getfield 15, 3) := by decide +kernel
theorem dX5_isBehind_26 : decode cX5_isBehind 26 = .ok (.aload_n 1, 1) := by decide +kernel
theorem dX5_isBehind_27 : decode cX5_isBehind 27 = .ok (.getfield 15, 3) := by decide +kernel
theorem dX5_isBehind_30 : decode cX5_isBehind 30 = .ok (.if_icmp .ge 7, 3) := by decide +kernel
theorem dX5_isBehind_33 : decode cX5_isBehind 33 = .ok (.iconst 1, 1) := by decide +kernel
theorem dX5_isBehind_34 : decode cX5_isBehind 34 = .ok (.goto 4, 3) := by decide +kernel
theorem dX5_isBehind_37 : decode cX5_isBehind 37 = .ok (.iconst 0, 1) := by decide +kernel
theorem dX5_isBehind_38 : decode cX5_isBehind 38 = .ok (.ireturn, 1) := by decide +kernel
theorem dX5_gain_0 : decode cX5_gain 0 = .ok (.aload_n 0, 1) := by decide +kernel
theorem dX5_gain_1 : decode cX5_gain 1 = .ok (.iconst 0, 1) := by decide +kernel
theorem dX5_gain_2 : decode cX5_gain 2 = .ok (.bipush 20, 2) := by decide +kernel
theorem dX5_gain_4 : decode cX5_gain 4 = .ok (.aload_n 0, 1) := by decide +kernel
theorem dX5_gain_5 : decode cX5_gain 5 = .ok (.getfield 15, 3) := by decide +kernel
theorem dX5_gain_8 : decode cX5_gain 8 = .ok (.iload_n 1, 1) := by decide +kernel
theorem dX5_gain_9 : decode cX5_gain 9 = .ok (.iadd, 1) := by decide +kernel
theorem dX5_gain_10 : decode cX5_gain 10 = .ok (.invokestatic 35, 3) := by decide +kernel
theorem dX5_gain_13 : decode cX5_gain 13 = .ok (.invokestatic 41, 3) := by decide +kernel
theorem dX5_gain_16 : decode cX5_gain 16 = .ok (.putfield 15, 3) := by decide +kernel
theorem dX5_gain_19 : decode cX5_gain 19 = .ok (.return_, 1) := by decide +kernel
theorem dX5_trustByFinger_0 : decode cX5_trustByFinger 0 = .ok (.bipush 20, 2) := by decide +kernel
theorem dX5_trustByFinger_2 : decode cX5_trustByFinger 2 = .ok (.aload_n 0, 1) := by decide +kernel
theorem dX5_trustByFinger_3 : decode cX5_trustByFinger 3 = .ok (.getfield 15, 3) := by decide +kernel
theorem dX5_trustByFinger_6 : decode cX5_trustByFinger 6 = .ok (.aload_n 0, 1) := by decide +kernel
theorem dX5_trustByFinger_7 : decode cX5_trustByFinger 7 = .ok (.getfield 9, 3) := by decide +kernel
theorem dX5_trustByFinger_10 : decode cX5_trustByFinger 10 = .ok (.getfield 44, 3) := by decide +kernel
theorem dX5_trustByFinger_13 : decode cX5_trustByFinger 13 = .ok (.iconst 2, 1) := by decide +kernel
theorem dX5_trustByFinger_14 : decode cX5_trustByFinger 14 = .ok (.idiv, 1) := by decide +kernel
theorem dX5_trustByFinger_15 : decode cX5_trustByFinger 15 = .ok (.iadd, 1) := by decide +kernel
theorem dX5_trustByFinger_16 : decode cX5_trustByFinger 16 = .ok (.iconst 1, 1) := by decide +kernel
theorem dX5_trustByFinger_17 : decode cX5_trustByFinger 17 = .ok (.iadd, 1) := by decide +kernel
theorem dX5_trustByFinger_18 : decode cX5_trustByFinger 18 = .ok (.invokestatic 35, 3) := by decide +kernel
theorem dX5_trustByFinger_21 : decode cX5_trustByFinger 21 = .ok (.ireturn, 1) := by decide +kernel
theorem dX5_stepsByFinger_0 : decode cX5_stepsByFinger 0 = .ok (.aload_n 0, 1) := by decide +kernel
theorem dX5_stepsByFinger_1 : decode cX5_stepsByFinger 1 = .ok (.invokevirtual 31, 3) := by decide +kernel
theorem dX5_stepsByFinger_4 : decode cX5_stepsByFinger 4 = .ok (.ifCond .ne 27, 3) := by decide +kernel
theorem dX5_stepsByFinger_7 : decode cX5_stepsByFinger 7 = .ok (.aload_n 0, 1) := by decide +kernel
theorem dX5_stepsByFinger_8 : decode cX5_stepsByFinger 8 = .ok (.invokevirtual 47, 3) := by decide +kernel
theorem dX5_stepsByFinger_11 : decode cX5_stepsByFinger 11 = .ok (.aload_n 0, 1) := by decide +kernel
theorem dX5_stepsByFinger_12 : decode cX5_stepsByFinger 12 = .ok (.getfield 9, 3) := by decide +kernel
theorem dX5_stepsByFinger_15 : decode cX5_stepsByFinger 15 = .ok (.aload_n 0, 1) := by decide +kernel
theorem dX5_stepsByFinger_16 : decode cX5_stepsByFinger 16 = .ok (.getfield 19, 3) := by decide +kernel
theorem dX5_stepsByFinger_19 : decode cX5_stepsByFinger 19 = .ok (.invokevirtual 25, 3) := by decide +kernel
theorem dX5_stepsByFinger_22 : decode cX5_stepsByFinger 22 = .ok (.iconst 3, 1) := by decide +kernel
theorem dX5_stepsByFinger_23 : decode cX5_stepsByFinger 23 = .ok (.iadd, 1) := by decide +kernel
theorem dX5_stepsByFinger_24 : decode cX5_stepsByFinger 24 = .ok (.if_icmp .lt 7, 3) := by decide +kernel
theorem dX5_stepsByFinger_27 : decode cX5_stepsByFinger 27 = .ok (.iconst 1, 1) := by decide +kernel
theorem dX5_stepsByFinger_28 : decode cX5_stepsByFinger 28 = .ok (.goto 4, 3) := by decide +kernel
theorem dX5_stepsByFinger_31 : decode cX5_stepsByFinger 31 = .ok (.iconst 0, 1) := by decide +kernel
theorem dX5_stepsByFinger_32 : decode cX5_stepsByFinger 32 = .ok (.ireturn, 1) := by decide +kernel
theorem dX5_meets_0 : decode cX5_meets 0 = .ok (.iload_n 1, 1) := by decide +kernel
theorem dX5_meets_1 : decode cX5_meets 1 = .ok (.iconst 2, 1) := by decide +kernel
theorem dX5_meets_2 : decode cX5_meets 2 = .ok (.if_icmp .ne 10, 3) := by decide +kernel
theorem dX5_meets_5 : decode cX5_meets 5 = .ok (.aload_n 0, 1) := by decide +kernel
theorem dX5_meets_6 : decode cX5_meets 6 = .ok (.invokevirtual 51, 3) := by decide +kernel
theorem dX5_meets_9 : decode cX5_meets 9 = .ok (.goto 20, 3) := by decide +kernel
theorem dX5_meets_12 : decode cX5_meets 12 = .ok (.iload_n 1, 1) := by decide +kernel
theorem dX5_meets_13 : decode cX5_meets 13 = .ok (.iconst 1, 1) := by decide +kernel
theorem dX5_meets_14 : decode cX5_meets 14 = .ok (.if_icmp .ne 14, 3) := by decide +kernel
theorem dX5_meets_17 : decode cX5_meets 17 = .ok (.aload_n 0, 1) := by decide +kernel
theorem dX5_meets_18 : decode cX5_meets 18 = .ok (.invokevirtual 54, 3) := by decide +kernel
theorem dX5_meets_21 : decode cX5_meets 21 = .ok (.ifCond .eq 7, 3) := by decide +kernel
theorem dX5_meets_24 : decode cX5_meets 24 = .ok (.iconst 1, 1) := by decide +kernel
theorem dX5_meets_25 : decode cX5_meets 25 = .ok (.goto 4, 3) := by decide +kernel
theorem dX5_meets_28 : decode cX5_meets 28 = .ok (.iconst 0, 1) := by decide +kernel
theorem dX5_meets_29 : decode cX5_meets 29 = .ok (.istore_n 2, 1) := by decide +kernel
theorem dX5_meets_30 : decode cX5_meets 30 = .ok (.iload_n 1, 1) := by decide +kernel
theorem dX5_meets_31 : decode cX5_meets 31 = .ok (.ifCond .ne 17, 3) := by decide +kernel
theorem dX5_meets_34 : decode cX5_meets 34 = .ok (.aload_n 0, 1) := by decide +kernel
theorem dX5_meets_35 : decode cX5_meets 35 = .ok (.aload_n 0, 1) := by decide +kernel
theorem dX5_meets_36 : decode cX5_meets 36 = .ok (.getfield 9, 3) := by decide +kernel
theorem dX5_meets_39 : decode cX5_meets 39 = .ok (.getfield 44, 3) := by decide +kernel
theorem dX5_meets_42 : decode cX5_meets 42 = .ok (.invokevirtual 57, 3) := by decide +kernel
theorem dX5_meets_45 : decode cX5_meets 45 = .ok (.goto 35, 3) := by decide +kernel
theorem dX5_meets_48 : decode cX5_meets 48 = .ok (.iload_n 1, 1) := by decide +kernel
theorem dX5_meets_49 : decode cX5_meets 49 = .ok (.iconst 1, 1) := by decide +kernel
theorem dX5_meets_50 : decode cX5_meets 50 = .ok (.if_icmp .ne 14, 3) := by decide +kernel
theorem dX5_meets_53 : decode cX5_meets 53 = .ok (.aload_n 0, 1) := by decide +kernel
theorem dX5_meets_54 : decode cX5_meets 54 = .ok (.aload_n 0, 1) := by decide +kernel
theorem dX5_meets_55 : decode cX5_meets 55 = .ok (.invokevirtual 47, 3) := by decide +kernel
theorem dX5_meets_58 : decode cX5_meets 58 = .ok (.putfield 15, 3) := by decide +kernel
theorem dX5_meets_61 : decode cX5_meets 61 = .ok (.goto 19, 3) := by decide +kernel
theorem dX5_meets_64 : decode cX5_meets 64 = .ok (.iload_n 2, 1) := by decide +kernel
theorem dX5_meets_65 : decode cX5_meets 65 = .ok (.ifCond .ne 15, 3) := by decide +kernel
theorem dX5_meets_68 : decode cX5_meets 68 = .ok (.aload_n 0, 1) := by decide +kernel
theorem dX5_meets_69 : decode cX5_meets 69 = .ok (.aload_n 0, 1) := by decide +kernel
theorem dX5_meets_70 : decode cX5_meets 70 = .ok (.getfield 9, 3) := by decide +kernel
theorem dX5_meets_73 : decode cX5_meets 73 = .ok (.getfield 61, 3) := by decide +kernel
theorem dX5_meets_76 : decode cX5_meets 76 = .ok (.ineg, 1) := by decide +kernel
theorem dX5_meets_77 : decode cX5_meets 77 = .ok (.invokevirtual 57, 3) := by decide +kernel
theorem dX5_meets_80 : decode cX5_meets 80 = .ok (.iload_n 2, 1) := by decide +kernel
theorem dX5_meets_81 : decode cX5_meets 81 = .ok (.ifCond .eq 13, 3) := by decide +kernel
theorem dX5_meets_84 : decode cX5_meets 84 = .ok (.aload_n 0, 1) := by decide +kernel
theorem dX5_meets_85 : decode cX5_meets 85 = .ok (.dup, 1) := by decide +kernel
theorem dX5_meets_86 : decode cX5_meets 86 = .ok (.getfield 19, 3) := by decide +kernel
theorem dX5_meets_89 : decode cX5_meets 89 = .ok (.iconst 1, 1) := by decide +kernel
theorem dX5_meets_90 : decode cX5_meets 90 = .ok (.iadd, 1) := by decide +kernel
theorem dX5_meets_91 : decode cX5_meets 91 = .ok (.putfield 19, 3) := by decide +kernel
theorem dX5_meets_94 : decode cX5_meets 94 = .ok (.iload_n 1, 1) := by decide +kernel
theorem dX5_meets_95 : decode cX5_meets 95 = .ok (.iconst 2, 1) := by decide +kernel
theorem dX5_meets_96 : decode cX5_meets 96 = .ok (.if_icmp .ne 11, 3) := by decide +kernel
theorem dX5_meets_99 : decode cX5_meets 99 = .ok (.iload_n 2, 1) := by decide +kernel
theorem dX5_meets_100 : decode cX5_meets 100 = .ok (.ifCond .ne 7, 3) := by decide +kernel
theorem dX5_meets_103 : decode cX5_meets 103 = .ok (.iconst 1, 1) := by decide +kernel
theorem dX5_meets_104 : decode cX5_meets 104 = .ok (.goto 4, 3) := by decide +kernel
theorem dX5_meets_107 : decode cX5_meets 107 = .ok (.iconst 0, 1) := by decide +kernel
theorem dX5_meets_108 : decode cX5_meets 108 = .ok (.ireturn, 1) := by decide +kernel
theorem dX5_getsColder_0 : decode cX5_getsColder 0 = .ok (.aload_n 0, 1) := by decide +kernel
theorem dX5_getsColder_1 : decode cX5_getsColder 1 = .ok (.bipush 20, 2) := by decide +kernel
theorem dX5_getsColder_3 : decode cX5_getsColder 3 = .ok (.aload_n 0, 1) := by decide +kernel
theorem dX5_getsColder_4 : decode cX5_getsColder 4 = .ok (.getfield 22, 3) := by decide +kernel
theorem dX5_getsColder_7 : decode cX5_getsColder 7 = .ok (.iconst 1, 1) := by decide +kernel
theorem dX5_getsColder_8 : decode cX5_getsColder 8 = .ok (.iadd, 1) := by decide +kernel
theorem dX5_getsColder_9 : decode cX5_getsColder 9 = .ok (.invokestatic 35, 3) := by decide +kernel
theorem dX5_getsColder_12 : decode cX5_getsColder 12 = .ok (.putfield 22, 3) := by decide +kernel
theorem dX5_getsColder_15 : decode cX5_getsColder 15 = .ok (.aload_n 0, 1) := by decide +kernel
theorem dX5_getsColder_16 : decode cX5_getsColder 16 = .ok (.getfield 22, 3) := by decide +kernel
theorem dX5_getsColder_19 : decode cX5_getsColder 19 = .ok (.aload_n 0, 1) := by decide +kernel
theorem dX5_getsColder_20 : decode cX5_getsColder 20 = .ok (.getfield 9, 3) := by decide +kernel
theorem dX5_getsColder_23 : decode cX5_getsColder 23 = .ok (.getfield 64, 3) := by decide +kernel
theorem dX5_getsColder_26 : decode cX5_getsColder 26 = .ok (.if_icmp .le 13, 3) := by decide +kernel
theorem dX5_getsColder_29 : decode cX5_getsColder 29 = .ok (.aload_n 0, 1) := by decide +kernel
theorem dX5_getsColder_30 : decode cX5_getsColder 30 = .ok (.iconst (-1), 1) := by decide +kernel
theorem dX5_getsColder_31 : decode cX5_getsColder 31 = .ok (.invokevirtual 57, 3) := by decide +kernel
theorem dX5_getsColder_34 : decode cX5_getsColder 34 = .ok (.aload_n 0, 1) := by decide +kernel
theorem dX5_getsColder_35 : decode cX5_getsColder 35 = .ok (.iconst 0, 1) := by decide +kernel
theorem dX5_getsColder_36 : decode cX5_getsColder 36 = .ok (.putfield 22, 3) := by decide +kernel
theorem dX5_getsColder_39 : decode cX5_getsColder 39 = .ok (.return_, 1) := by decide +kernel
theorem dX5_pauses_0 : decode cX5_pauses 0 = .ok (.aload_n 0, 1) := by decide +kernel
theorem dX5_pauses_1 : decode cX5_pauses 1 = .ok (.invokevirtual 31, 3) := by decide +kernel
theorem dX5_pauses_4 : decode cX5_pauses 4 = .ok (.ifCond .ne 19, 3) := by decide +kernel
theorem dX5_pauses_7 : decode cX5_pauses 7 = .ok (.aload_n 0, 1) := by decide +kernel
theorem dX5_pauses_8 : decode cX5_pauses 8 = .ok (.iconst 0, 1) := by decide +kernel
theorem dX5_pauses_9 : decode cX5_pauses 9 = .ok (.aload_n 0, 1) := by decide +kernel
theorem dX5_pauses_10 : decode cX5_pauses 10 = .ok (.getfield 19, 3) := by decide +kernel
theorem dX5_pauses_13 : decode cX5_pauses 13 = .ok (.iload_n 1, 1) := by decide +kernel
theorem dX5_pauses_14 : decode cX5_pauses 14 = .ok (.iconst 3, 1) := by decide +kernel
theorem dX5_pauses_15 : decode cX5_pauses 15 = .ok (.idiv, 1) := by decide +kernel
theorem dX5_pauses_16 : decode cX5_pauses 16 = .ok (.isub, 1) := by decide +kernel
theorem dX5_pauses_17 : decode cX5_pauses 17 = .ok (.invokestatic 41, 3) := by decide +kernel
theorem dX5_pauses_20 : decode cX5_pauses 20 = .ok (.putfield 19, 3) := by decide +kernel
theorem dX5_pauses_23 : decode cX5_pauses 23 = .ok (.aload_n 0, 1) := by decide +kernel
theorem dX5_pauses_24 : decode cX5_pauses 24 = .ok (.iload_n 1, 1) := by decide +kernel
theorem dX5_pauses_25 : decode cX5_pauses 25 = .ok (.ineg, 1) := by decide +kernel
theorem dX5_pauses_26 : decode cX5_pauses 26 = .ok (.invokevirtual 57, 3) := by decide +kernel
theorem dX5_pauses_29 : decode cX5_pauses 29 = .ok (.aload_n 0, 1) := by decide +kernel
theorem dX5_pauses_30 : decode cX5_pauses 30 = .ok (.iconst 0, 1) := by decide +kernel
theorem dX5_pauses_31 : decode cX5_pauses 31 = .ok (.putfield 22, 3) := by decide +kernel
theorem dX5_pauses_34 : decode cX5_pauses 34 = .ok (.return_, 1) := by decide +kernel
theorem dX6_init_0 : decode cX6_init 0 = .ok (.aload_n 0, 1) := by decide +kernel
theorem dX6_init_1 : decode cX6_init 1 = .ok (.iload_n 1, 1) := by decide +kernel
theorem dX6_init_2 : decode cX6_init 2 = .ok (.invokespecial 1, 3) := by decide +kernel
theorem dX6_init_5 : decode cX6_init 5 = .ok (.aload_n 0, 1) := by decide +kernel
theorem dX6_init_6 : decode cX6_init 6 = .ok (.iconst 4, 1) := by decide +kernel
theorem dX6_init_7 : decode cX6_init 7 = .ok (.putfield 7, 3) := by decide +kernel
theorem dX6_init_10 : decode cX6_init 10 = .ok (.aload_n 0, 1) := by decide +kernel
theorem dX6_init_11 : decode cX6_init 11 = .ok (.iconst 0, 1) := by decide +kernel
theorem dX6_init_12 : decode cX6_init 12 = .ok (.putfield 13, 3) := by decide +kernel
theorem dX6_init_15 : decode cX6_init 15 = .ok (.aload_n 0, 1) := by decide +kernel
theorem dX6_init_16 : decode cX6_init 16 = .ok (.dup, 1) := by decide +kernel
theorem dX6_init_17 : decode cX6_init 17 = .ok (.getfield 16, 3) := by decide +kernel
theorem dX6_init_20 : decode cX6_init 20 = .ok (.iconst 1, 1) := by decide +kernel
theorem dX6_init_21 : decode cX6_init 21 = .ok (.iadd, 1) := by decide +kernel
theorem dX6_init_22 : decode cX6_init 22 = .ok (.putfield 16, 3) := by decide +kernel
theorem dX6_init_25 : decode cX6_init 25 = .ok (.aload_n 0, 1) := by decide +kernel
theorem dX6_init_26 : decode cX6_init 26 = .ok (.dup, 1) := by decide +kernel
theorem dX6_init_27 : decode cX6_init 27 = .ok (.getfield 19, 3) := by decide +kernel
theorem dX6_init_30 : decode cX6_init 30 = .ok (.iconst 1, 1) := by decide +kernel
theorem dX6_init_31 : decode cX6_init 31 = .ok (.isub, 1) := by decide +kernel
theorem dX6_init_32 : decode cX6_init 32 = .ok (.putfield 19, 3) := by decide +kernel
theorem dX6_init_35 : decode cX6_init 35 = .ok (.return_, 1) := by decide +kernel
theorem dX7_init_0 : decode cX7_init 0 = .ok (.aload_n 0, 1) := by decide +kernel
theorem dX7_init_1 : decode cX7_init 1 = .ok (.invokespecial 3, 3) := by decide +kernel
theorem dX7_init_4 : decode cX7_init 4 = .ok (.aload_n 0, 1) := by decide +kernel
theorem dX7_init_5 : decode cX7_init 5 = .ok (.bipush 6, 2) := by decide +kernel
theorem dX7_init_7 : decode cX7_init 7 = .ok (.anewarray 9, 3) := by decide +kernel
theorem dX7_init_10 : decode cX7_init 10 = .ok (.putfield 11, 3) := by decide +kernel
theorem dX7_init_13 : decode cX7_init 13 = .ok (.iconst 0, 1) := by decide +kernel
theorem dX7_init_14 : decode cX7_init 14 = .ok (.istore_n 2, 1) := by decide +kernel
theorem dX7_init_15 : decode cX7_init 15 = .ok (.iload_n 2, 1) := by decide +kernel
theorem dX7_init_16 : decode cX7_init 16 = .ok (.aload_n 0, 1) := by decide +kernel
theorem dX7_init_17 : decode cX7_init 17 = .ok (.getfield 11, 3) := by decide +kernel
theorem dX7_init_20 : decode cX7_init 20 = .ok (.arraylength, 1) := by decide +kernel
theorem dX7_init_21 : decode cX7_init 21 = .ok (.if_icmp .ge 23, 3) := by decide +kernel
theorem dX7_init_24 : decode cX7_init 24 = .ok (.aload_n 0, 1) := by decide +kernel
theorem dX7_init_25 : decode cX7_init 25 = .ok (.getfield 11, 3) := by decide +kernel
theorem dX7_init_28 : decode cX7_init 28 = .ok (.iload_n 2, 1) := by decide +kernel
theorem dX7_init_29 : decode cX7_init 29 = .ok (.new 9, 3) := by decide +kernel
theorem dX7_init_32 : decode cX7_init 32 = .ok (.dup, 1) := by decide +kernel
theorem dX7_init_33 : decode cX7_init 33 = .ok (.aload_n 1, 1) := by decide +kernel
theorem dX7_init_34 : decode cX7_init 34 = .ok (.invokespecial 17, 3) := by decide +kernel
theorem dX7_init_37 : decode cX7_init 37 = .ok (.aastore, 1) := by decide +kernel
theorem dX7_init_38 : decode cX7_init 38 = .ok (.iinc 2 1, 3) := by decide +kernel
theorem dX7_init_41 : decode cX7_init 41 = .ok (.goto (-26), 3) := by decide +kernel
theorem dX7_init_44 : decode cX7_init 44 = .ok (.aload_n 0, 1) := by decide +kernel
theorem dX7_init_45 : decode cX7_init 45 = .ok (.new 9, 3) := by decide +kernel
theorem dX7_init_48 : decode cX7_init 48 = .ok (.dup, 1) := by decide +kernel
theorem dX7_init_49 : decode cX7_init 49 = .ok (.aload_n 1, 1) := by decide +kernel
theorem dX7_init_50 : decode cX7_init 50 = .ok (.invokespecial 17, 3) := by decide +kernel
theorem dX7_init_53 : decode cX7_init 53 = .ok (.putfield 20, 3) := by decide +kernel
theorem dX7_init_56 : decode cX7_init 56 = .ok (.return_, 1) := by decide +kernel
theorem dX7_setTo_0 : decode cX7_setTo 0 = .ok (.iconst 0, 1) := by decide +kernel
theorem dX7_setTo_1 : decode cX7_setTo 1 = .ok (.istore_n 2, 1) := by decide +kernel
theorem dX7_setTo_2 : decode cX7_setTo 2 = .ok (.iload_n 2, 1) := by decide +kernel
theorem dX7_setTo_3 : decode cX7_setTo 3 = .ok (.aload_n 1, 1) := by decide +kernel
theorem dX7_setTo_4 : decode cX7_setTo 4 = .ok (.getfield 24, 3) := by decide +kernel
theorem dX7_setTo_7 : decode cX7_setTo 7 = .ok (.if_icmp .ge 24, 3) := by decide +kernel
theorem dX7_setTo_10 : decode cX7_setTo 10 = .ok (.aload_n 0, 1) := by decide +kernel
theorem dX7_setTo_11 : decode cX7_setTo 11 = .ok (.getfield 11, 3) := by decide +kernel
theorem dX7_setTo_14 : decode cX7_setTo 14 = .ok (.iload_n 2, 1) := by decide +kernel
theorem dX7_setTo_15 : decode cX7_setTo 15 = .ok (.aaload, 1) := by decide +kernel
theorem dX7_setTo_16 : decode cX7_setTo 16 = .ok (.aload_n 1, 1) := by decide +kernel
theorem dX7_setTo_17 : decode cX7_setTo 17 = .ok (.getfield 11, 3) := by decide +kernel
theorem dX7_setTo_20 : decode cX7_setTo 20 = .ok (.iload_n 2, 1) := by decide +kernel
theorem dX7_setTo_21 : decode cX7_setTo 21 = .ok (.aaload, 1) := by decide +kernel
theorem dX7_setTo_22 : decode cX7_setTo 22 = .ok (.invokevirtual 28, 3) := by decide +kernel
theorem dX7_setTo_25 : decode cX7_setTo 25 = .ok (.iinc 2 1, 3) := by decide +kernel
theorem dX7_setTo_28 : decode cX7_setTo 28 = .ok (.goto (-26), 3) := by decide +kernel
theorem dX7_setTo_31 : decode cX7_setTo 31 = .ok (.aload_n 0, 1) := by decide +kernel
theorem dX7_setTo_32 : decode cX7_setTo 32 = .ok (.aload_n 1, 1) := by decide +kernel
theorem dX7_setTo_33 : decode cX7_setTo 33 = .ok (.getfield 24, 3) := by decide +kernel
theorem dX7_setTo_36 : decode cX7_setTo 36 = .ok (.putfield 24, 3) := by decide +kernel
theorem dX7_setTo_39 : decode cX7_setTo 39 = .ok (.aload_n 0, 1) := by decide +kernel
theorem dX7_setTo_40 : decode cX7_setTo 40 = .ok (.aload_n 1, 1) := by decide +kernel
theorem dX7_setTo_41 : decode cX7_setTo 41 = .ok (.getfield 32, 3) := by decide +kernel
theorem dX7_setTo_44 : decode cX7_setTo 44 = .ok (.putfield 32, 3) := by decide +kernel
theorem dX7_setTo_47 : decode cX7_setTo 47 = .ok (.aload_n 0, 1) := by decide +kernel
theorem dX7_setTo_48 : decode cX7_setTo 48 = .ok (.iconst 0, 1) := by decide +kernel
theorem dX7_setTo_49 : decode cX7_setTo 49 = .ok (.putfield 35, 3) := by decide +kernel
theorem dX7_setTo_52 : decode cX7_setTo 52 = .ok (.return_, 1) := by decide +kernel
theorem dX7_has_0 : decode cX7_has 0 = .ok (.iload_n 1, 1) := by decide +kernel
theorem dX7_has_1 : decode cX7_has 1 = .ok (.iconst 0, 1) := by decide +kernel
theorem dX7_has_2 : decode cX7_has 2 = .ok (.aload_n 0, 1) := by decide +kernel
theorem dX7_has_3 : decode cX7_has 3 = .ok (.getfield 24, 3) := by decide +kernel
theorem dX7_has_6 : decode cX7_has 6 = .ok (.iconst 1, 1) := by decide +kernel
theorem dX7_has_7 : decode cX7_has 7 = .ok (.isub, 1) := by decide +kernel
theorem dX7_has_8 : decode cX7_has 8 = .ok (.invokestatic 38, 3) := by decide +kernel
theorem dX7_has_11 : decode cX7_has 11 = .ok (.ireturn, 1) := by decide +kernel
theorem dX7_hasTwo_0 : decode cX7_hasTwo 0 = .ok (.aload_n 0, 1) := by decide +kernel
theorem dX7_hasTwo_1 : decode cX7_hasTwo 1 = .ok (.iload_n 1, 1) := by decide +kernel
theorem dX7_hasTwo_2 : decode cX7_hasTwo 2 = .ok (.invokevirtual 42, 3) := by decide +kernel
theorem dX7_hasTwo_5 : decode cX7_hasTwo 5 = .ok (.ifCond .eq 20, 3) := by decide +kernel
theorem dX7_hasTwo_8 : decode cX7_hasTwo 8 = .ok (.aload_n 0, 1) := by decide +kernel
theorem dX7_hasTwo_9 : decode cX7_hasTwo 9 = .ok (.iload_n 2, 1) := by decide +kernel
theorem dX7_hasTwo_10 : decode cX7_hasTwo 10 = .ok (.invokevirtual 42, 3) := by decide +kernel
theorem dX7_hasTwo_13 : decode cX7_hasTwo 13 = .ok (.ifCond .eq 12, 3) := by decide +kernel
theorem dX7_hasTwo_16 : decode cX7_hasTwo 16 = .ok (.iload_n 1, 1) := by decide +kernel
theorem dX7_hasTwo_17 : decode cX7_hasTwo 17 = .ok (.iload_n 2, 1) := by decide +kernel
theorem dX7_hasTwo_18 : decode cX7_hasTwo 18 = .ok (.if_icmp .eq 7, 3) := by decide +kernel
theorem dX7_hasTwo_21 : decode cX7_hasTwo 21 = .ok (.iconst 1, 1) := by decide +kernel
theorem dX7_hasTwo_22 : decode cX7_hasTwo 22 = .ok (.goto 4, 3) := by decide +kernel
theorem dX7_hasTwo_25 : decode cX7_hasTwo 25 = .ok (.iconst 0, 1) := by decide +kernel
theorem dX7_hasTwo_26 : decode cX7_hasTwo 26 = .ok (.ireturn, 1) := by decide +kernel
theorem dX7_hasRoom_0 : decode cX7_hasRoom 0 = .ok (.aload_n 0, 1) := by decide +kernel
theorem dX7_hasRoom_1 : decode cX7_hasRoom 1 = .ok (.getfield 24, 3) := by decide +kernel
theorem dX7_hasRoom_4 : decode cX7_hasRoom 4 = .ok (.aload_n 0, 1) := by decide +kernel
theorem dX7_hasRoom_5 : decode cX7_hasRoom 5 = .ok (.getfield 11, 3) := by decide +kernel
theorem dX7_hasRoom_8 : decode cX7_hasRoom 8 = .ok (.arraylength, 1) := by decide +kernel
theorem dX7_hasRoom_9 : decode cX7_hasRoom 9 = .ok (.if_icmp .ge 7, 3) := by decide +kernel
theorem dX7_hasRoom_12 : decode cX7_hasRoom 12 = .ok (.iconst 1, 1) := by decide +kernel
theorem dX7_hasRoom_13 : decode cX7_hasRoom 13 = .ok (.goto 4, 3) := by decide +kernel
theorem dX7_hasRoom_16 : decode cX7_hasRoom 16 = .ok (.iconst 0, 1) := by decide +kernel
theorem dX7_hasRoom_17 : decode cX7_hasRoom 17 = .ok (.ireturn, 1) := by decide +kernel
theorem dX7_canTake_0 : decode cX7_canTake 0 = .ok (.aload_n 0, 1) := by decide +kernel
theorem dX7_canTake_1 : decode cX7_canTake 1 = .ok (.iload_n 1, 1) := by decide +kernel
theorem dX7_canTake_2 : decode cX7_canTake 2 = .ok (.invokevirtual 42, 3) := by decide +kernel
theorem dX7_canTake_5 : decode cX7_canTake 5 = .ok (.ifCond .eq 28, 3) := by decide +kernel
theorem dX7_canTake_8 : decode cX7_canTake 8 = .ok (.aload_n 0, 1) := by decide +kernel
theorem dX7_canTake_9 : decode cX7_canTake 9 = .ok (.getfield 11, 3) := by decide +kernel
theorem dX7_canTake_12 : decode cX7_canTake 12 = .ok (.iload_n 1, 1) := by decide +kernel
theorem dX7_canTake_13 : decode cX7_canTake 13 = .ok (.aaload, 1) := by decide +kernel
theorem dX7_canTake_14 : decode cX7_canTake 14 = .ok (.invokevirtual 46, 3) := by decide +kernel
theorem dX7_canTake_17 : decode cX7_canTake 17 = .ok (.ifCond .ne 16, 3) := by decide +kernel
theorem dX7_canTake_20 : decode cX7_canTake 20 = .ok (.iload_n 2, 1) := by decide +kernel
theorem dX7_canTake_21 : decode cX7_canTake 21 = .ok (.iconst 0, 1) := by decide +kernel
theorem dX7_canTake_22 : decode cX7_canTake 22 = .ok (.iconst 3, 1) := by decide +kernel
theorem dX7_canTake_23 : decode cX7_canTake 23 = .ok (.invokestatic 38, 3) := by decide +kernel
theorem dX7_canTake_26 : decode cX7_canTake 26 = .ok (.ifCond .eq 7, 3) := by decide +kernel
theorem dX7_canTake_29 : decode cX7_canTake 29 = .ok (.iconst 1, 1) := by decide +kernel
theorem dX7_canTake_30 : decode cX7_canTake 30 = .ok (.goto 4, 3) := by decide +kernel
theorem dX7_canTake_33 : decode cX7_canTake 33 = .ok (.iconst 0, 1) := by decide +kernel
theorem dX7_canTake_34 : decode cX7_canTake 34 = .ok (.ireturn, 1) := by decide +kernel
theorem dX7_add_0 : decode cX7_add 0 = .ok (.aload_n 0, 1) := by decide +kernel
theorem dX7_add_1 : decode cX7_add 1 = .ok (.getfield 11, 3) := by decide +kernel
theorem dX7_add_4 : decode cX7_add 4 = .ok (.aload_n 0, 1) := by decide +kernel
theorem dX7_add_5 : decode cX7_add 5 = .ok (.getfield 24, 3) := by decide +kernel
theorem dX7_add_8 : decode cX7_add 8 = .ok (.aaload, 1) := by decide +kernel
theorem dX7_add_9 : decode cX7_add 9 = .ok (.astore_n 3, 1) := by decide +kernel
theorem dX7_add_10 : decode cX7_add 10 = .ok (.aload_n 3, 1) := by decide +kernel
theorem dX7_add_11 : decode cX7_add 11 = .ok (.aload_n 1, 1) := by decide +kernel
theorem dX7_add_12 : decode cX7_add 12 = .ok (.putfield 50, 3) := by decide +kernel
theorem dX7_add_15 : decode cX7_add 15 = .ok (.aload_n 3, 1) := by decide +kernel
theorem dX7_add_16 : decode cX7_add 16 = .ok (.iload_n 2, 1) := by decide +kernel
theorem dX7_add_17 : decode cX7_add 17 = .ok (.putfield 54, 3) := by decide +kernel
theorem dX7_add_20 : decode cX7_add 20 = .ok (.aload_n 3, 1) := by decide +kernel
theorem dX7_add_21 : decode cX7_add 21 = .ok (.iconst 0, 1) := by decide +kernel
theorem dX7_add_22 : decode cX7_add 22 = .ok (.putfield 57, 3) := by decide +kernel
theorem dX7_add_25 : decode cX7_add 25 = .ok (.aload_n 3, 1) := by decide +kernel
theorem dX7_add_26 : decode cX7_add 26 = .ok (.iconst 0, 1) := by decide +kernel
theorem dX7_add_27 : decode cX7_add 27 = .ok (.putfield 60, 3) := by decide +kernel
theorem dX7_add_30 : decode cX7_add 30 = .ok (.aload_n 0, 1) := by decide +kernel
theorem dX7_add_31 : decode cX7_add 31 = .ok (.dup, 1) := by decide +kernel
theorem dX7_add_32 : decode cX7_add 32 = .ok (.getfield 24, 3) := by decide +kernel
theorem dX7_add_35 : decode cX7_add 35 = .ok (.iconst 1, 1) := by decide +kernel
theorem dX7_add_36 : decode cX7_add 36 = .ok (.iadd, 1) := by decide +kernel
theorem dX7_add_37 : decode cX7_add 37 = .ok (.putfield 24, 3) := by decide +kernel
theorem dX7_add_40 : decode cX7_add 40 = .ok (.return_, 1) := by decide +kernel
theorem dX7_swap_0 : decode cX7_swap 0 = .ok (.aload_n 0, 1) := by decide +kernel
theorem dX7_swap_1 : decode cX7_swap 1 = .ok (.getfield 20, 3) := by decide +kernel
theorem dX7_swap_4 : decode cX7_swap 4 = .ok (.aload_n 0, 1) := by decide +kernel
theorem dX7_swap_5 : decode cX7_swap 5 = .ok (.getfield 11, 3) := by decide +kernel
theorem dX7_swap_8 : decode cX7_swap 8 = .ok (.iload_n 1, 1) := by decide +kernel
theorem dX7_swap_9 : decode cX7_swap 9 = .ok (.aaload, 1) := by decide +kernel
theorem dX7_swap_10 : decode cX7_swap 10 = .ok (.invokevirtual 28, 3) := by decide +kernel
theorem dX7_swap_13 : decode cX7_swap 13 = .ok (.aload_n 0, 1) := by decide +kernel
theorem dX7_swap_14 : decode cX7_swap 14 = .ok (.getfield 11, 3) := by decide +kernel
theorem dX7_swap_17 : decode cX7_swap 17 = .ok (.iload_n 1, 1) := by decide +kernel
theorem dX7_swap_18 : decode cX7_swap 18 = .ok (.aaload, 1) := by decide +kernel
theorem dX7_swap_19 : decode cX7_swap 19 = .ok (.aload_n 0, 1) := by decide +kernel
theorem dX7_swap_20 : decode cX7_swap 20 = .ok (.getfield 11, 3) := by decide +kernel
theorem dX7_swap_23 : decode cX7_swap 23 = .ok (.iload_n 2, 1) := by decide +kernel
theorem dX7_swap_24 : decode cX7_swap 24 = .ok (.aaload, 1) := by decide +kernel
theorem dX7_swap_25 : decode cX7_swap 25 = .ok (.invokevirtual 28, 3) := by decide +kernel
theorem dX7_swap_28 : decode cX7_swap 28 = .ok (.aload_n 0, 1) := by decide +kernel
theorem dX7_swap_29 : decode cX7_swap 29 = .ok (.getfield 11, 3) := by decide +kernel
theorem dX7_swap_32 : decode cX7_swap 32 = .ok (.iload_n 2, 1) := by decide +kernel
theorem dX7_swap_33 : decode cX7_swap 33 = .ok (.aaload, 1) := by decide +kernel
theorem dX7_swap_34 : decode cX7_swap 34 = .ok (.aload_n 0, 1) := by decide +kernel
theorem dX7_swap_35 : decode cX7_swap 35 = .ok (.getfield 20, 3) := by decide +kernel
theorem dX7_swap_38 : decode cX7_swap 38 = .ok (.invokevirtual 28, 3) := by decide +kernel
theorem dX7_swap_41 : decode cX7_swap 41 = .ok (.return_, 1) := by decide +kernel
theorem dX7_pause_0 : decode cX7_pause 0 = .ok (.iconst 0, 1) := by decide +kernel
theorem dX7_pause_1 : decode cX7_pause 1 = .ok (.istore_n 2, 1) := by decide +kernel
theorem dX7_pause_2 : decode cX7_pause 2 = .ok (.iload_n 2, 1) := by decide +kernel
theorem dX7_pause_3 : decode cX7_pause 3 = .ok (.aload_n 0, 1) := by decide +kernel
theorem dX7_pause_4 : decode cX7_pause 4 = .ok (.getfield 24, 3) := by decide +kernel
theorem dX7_pause_7 : decode cX7_pause 7 = .ok (.if_icmp .ge 19, 3) := by decide +kernel
theorem dX7_pause_10 : decode cX7_pause 10 = .ok (.aload_n 0, 1) := by decide +kernel
theorem dX7_pause_11 : decode cX7_pause 11 = .ok (.getfield 11, 3) := by decide +kernel
theorem dX7_pause_14 : decode cX7_pause 14 = .ok (.iload_n 2, 1) := by decide +kernel
theorem dX7_pause_15 : decode cX7_pause 15 = .ok (.aaload, 1) := by decide +kernel
theorem dX7_pause_16 : decode cX7_pause 16 = .ok (.iload_n 1, 1) := by decide +kernel
theorem dX7_pause_17 : decode cX7_pause 17 = .ok (.invokevirtual 63, 3) := by decide +kernel
theorem dX7_pause_20 : decode cX7_pause 20 = .ok (.iinc 2 1, 3) := by decide +kernel
theorem dX7_pause_23 : decode cX7_pause 23 = .ok (.goto (-21), 3) := by decide +kernel
theorem dX7_pause_26 : decode cX7_pause 26 = .ok (.return_, 1) := by decide +kernel
theorem dX7_take_0 : decode cX7_take 0 = .ok (.aload_n 0, 1) := by decide +kernel
theorem dX7_take_1 : decode cX7_take 1 = .ok (.getfield 11, 3) := by decide +kernel
theorem dX7_take_4 : decode cX7_take 4 = .ok (.iload_n 1, 1) := by decide +kernel
theorem dX7_take_5 : decode cX7_take 5 = .ok (.aaload, 1) := by decide +kernel
theorem dX7_take_6 : decode cX7_take 6 = .ok (.astore_n 3, 1) := by decide +kernel
theorem dX7_take_7 : decode cX7_take 7 = .ok (.iconst 0, 1) := by decide +kernel
theorem dX7_take_8 : decode cX7_take 8 = .ok (.istore 4, 2) := by decide +kernel
theorem dX7_take_10 : decode cX7_take 10 = .ok (.iload_n 2, 1) := by decide +kernel
theorem dX7_take_11 : decode cX7_take 11 = .ok (.iconst 3, 1) := by decide +kernel
theorem dX7_take_12 : decode cX7_take 12 = .ok (.if_icmp .ne 15, 3) := by decide +kernel
theorem dX7_take_15 : decode cX7_take 15 = .ok (.aload_n 3, 1) := by decide +kernel
theorem dX7_take_16 : decode cX7_take 16 = .ok (.aload_n 0, 1) := by decide +kernel
theorem dX7_take_17 : decode cX7_take 17 = .ok (.iload_n 1, 1) := by decide +kernel
theorem dX7_take_18 : decode cX7_take 18 = .ok (.invokevirtual 67, 3) := by decide +kernel
theorem dX7_take_21 : decode cX7_take 21 = .ok (.invokevirtual 71, 3) := by decide +kernel
theorem dX7_take_24 : decode cX7_take 24 = .ok (.goto 10, 3) := by decide +kernel
theorem dX7_take_27 : decode cX7_take 27 = .ok (.aload_n 3, 1) := by decide +kernel
theorem dX7_take_28 : decode cX7_take 28 = .ok (.iload_n 2, 1) := by decide +kernel
theorem dX7_take_29 : decode cX7_take 29 = .ok (.invokevirtual 74, 3) := by decide +kernel
theorem dX7_take_32 : decode cX7_take 32 = .ok (.istore 4, 2) := by decide +kernel
theorem dX7_take_34 : decode cX7_take 34 = .ok (.iload_n 2, 1) := by decide +kernel
theorem dX7_take_35 : decode cX7_take 35 = .ok (.iconst 2, 1) := by decide +kernel
theorem dX7_take_36 : decode cX7_take 36 = .ok (.if_icmp .ne 31, 3) := by decide +kernel
theorem dX7_take_39 : decode cX7_take 39 = .ok (.aload_n 0, 1) := by decide +kernel
theorem dX7_take_40 : decode cX7_take 40 = .ok (.iload_n 1, 1) := by decide +kernel
theorem dX7_take_41 : decode cX7_take 41 = .ok (.iload 4, 2) := by decide +kernel
theorem dX7_take_43 : decode cX7_take 43 = .ok (.ifCond .eq 14, 3) := by decide +kernel
theorem dX7_take_46 : decode cX7_take 46 = .ok (.aload_n 3, 1) := by decide +kernel
theorem dX7_take_47 : decode cX7_take 47 = .ok (.getfield 50, 3) := by decide +kernel
theorem dX7_take_50 : decode cX7_take 50 = .ok (.getfield 77, 3) := by decide +kernel
theorem dX7_take_53 : decode cX7_take 53 = .ok (.ineg, 1) := by decide +kernel
theorem dX7_take_54 : decode cX7_take 54 = .ok (.goto 10, 3) := by decide +kernel
theorem dX7_take_57 : decode cX7_take 57 = .ok (.aload_n 3, 1) := by decide +kernel
theorem dX7_take_58 : decode cX7_take 58 = .ok (.getfield 50, 3) := by decide +kernel
theorem dX7_take_61 : decode cX7_take 61 = .ok (.getfield 77, 3) := by decide +kernel
theorem dX7_take_64 : decode cX7_take 64 = .ok (.invokevirtual 82, 3) := by decide +kernel
theorem dX7_take_67 : decode cX7_take 67 = .ok (.iconst 0, 1) := by decide +kernel
theorem dX7_take_68 : decode cX7_take 68 = .ok (.istore 5, 2) := by decide +kernel
theorem dX7_take_70 : decode cX7_take 70 = .ok (.iload 5, 2) := by decide +kernel
theorem dX7_take_72 : decode cX7_take 72 = .ok (.aload_n 0, 1) := by decide +kernel
theorem dX7_take_73 : decode cX7_take 73 = .ok (.getfield 24, 3) := by decide +kernel
theorem dX7_take_76 : decode cX7_take 76 = .ok (.if_icmp .ge 38, 3) := by decide +kernel
theorem dX7_take_79 : decode cX7_take 79 = .ok (.iload 5, 2) := by decide +kernel
theorem dX7_take_81 : decode cX7_take 81 = .ok (.iload_n 1, 1) := by decide +kernel
theorem dX7_take_82 : decode cX7_take 82 = .ok (.if_icmp .eq 26, 3) := by decide +kernel
theorem dX7_take_85 : decode cX7_take 85 = .ok (.aload_n 0, 1) := by decide +kernel
theorem dX7_take_86 : decode cX7_take 86 = .ok (.getfield 11, 3) := by decide +kernel
theorem dX7_take_89 : decode cX7_take 89 = .ok (.iload 5, 2) := by decide +kernel
theorem dX7_take_91 : decode cX7_take 91 = .ok (.aaload, 1) := by decide +kernel
theorem dX7_take_92 : decode cX7_take 92 = .ok (.invokevirtual 46, 3) := by decide +kernel
theorem dX7_take_95 : decode cX7_take 95 = .ok (.ifCond .ne 13, 3) := by decide +kernel
theorem dX7_take_98 : decode cX7_take 98 = .ok (.aload_n 0, 1) := by decide +kernel
theorem dX7_take_99 : decode cX7_take 99 = .ok (.getfield 11, 3) := by decide +kernel
theorem dX7_take_102 : decode cX7_take 102 = .ok (.iload 5, 2) := by decide +kernel
theorem dX7_take_104 : decode cX7_take 104 = .ok (.aaload, 1) := by decide +kernel
theorem dX7_take_105 : decode cX7_take 105 = .ok (.invokevirtual 86, 3) := by decide +kernel
theorem dX7_take_108 : decode cX7_take 108 = .ok (.iinc 5 1, 3) := by decide +kernel
theorem dX7_take_111 : decode cX7_take 111 = .ok (.goto (-41), 3) := by decide +kernel
theorem dX7_take_114 : decode cX7_take 114 = .ok (.aload_n 0, 1) := by decide +kernel
theorem dX7_take_115 : decode cX7_take 115 = .ok (.dup, 1) := by decide +kernel
theorem dX7_take_116 : decode cX7_take 116 = .ok (.getfield 32, 3) := by decide +kernel
theorem dX7_take_119 : decode cX7_take 119 = .ok (.iconst 1, 1) := by decide +kernel
theorem dX7_take_120 : decode cX7_take 120 = .ok (.iadd, 1) := by decide +kernel
theorem dX7_take_121 : decode cX7_take 121 = .ok (.putfield 32, 3) := by decide +kernel
theorem dX7_take_124 : decode cX7_take 124 = .ok (.iload 4, 2) := by decide +kernel
theorem dX7_take_126 : decode cX7_take 126 = .ok (.ireturn, 1) := by decide +kernel
theorem dX7_shownTo_0 : decode cX7_shownTo 0 = .ok (.iconst 0, 1) := by decide +kernel
theorem dX7_shownTo_1 : decode cX7_shownTo 1 = .ok (.istore_n 2, 1) := by decide +kernel
theorem dX7_shownTo_2 : decode cX7_shownTo 2 = .ok (.iconst 0, 1) := by decide +kernel
theorem dX7_shownTo_3 : decode cX7_shownTo 3 = .ok (.istore_n 3, 1) := by decide +kernel
theorem dX7_shownTo_4 : decode cX7_shownTo 4 = .ok (.iload_n 3, 1) := by decide +kernel
theorem dX7_shownTo_5 : decode cX7_shownTo 5 = .ok (.aload_n 0, 1) := by decide +kernel
theorem dX7_shownTo_6 : decode cX7_shownTo 6 = .ok (.getfield 24, 3) := by decide +kernel
theorem dX7_shownTo_9 : decode cX7_shownTo 9 = .ok (.if_icmp .ge 50, 3) := by decide +kernel
theorem dX7_shownTo_12 : decode cX7_shownTo 12 = .ok (.aload_n 0, 1) := by decide +kernel
theorem dX7_shownTo_13 : decode cX7_shownTo 13 = .ok (.getfield 11, 3) := by decide +kernel
theorem dX7_shownTo_16 : decode cX7_shownTo 16 = .ok (.iload_n 3, 1) := by decide +kernel
theorem dX7_shownTo_17 : decode cX7_shownTo 17 = .ok (.aaload, 1) := by decide +kernel
theorem dX7_shownTo_18 : decode cX7_shownTo 18 = .ok (.getfield 57, 3) := by decide +kernel
theorem dX7_shownTo_21 : decode cX7_shownTo 21 = .ok (.aload_n 0, 1) := by decide +kernel
theorem dX7_shownTo_22 : decode cX7_shownTo 22 = .ok (.getfield 11, 3) := by decide +kernel
theorem dX7_shownTo_25 : decode cX7_shownTo 25 = .ok (.iload_n 1, 1) := by decide +kernel
theorem dX7_shownTo_26 : decode cX7_shownTo 26 = .ok (.aaload, 1) := by decide +kernel
theorem dX7_shownTo_27 : decode cX7_shownTo 27 = .ok (.getfield 57, 3) := by decide +kernel
theorem dX7_shownTo_30 : decode cX7_shownTo 30 = .ok (.if_icmp .le 23, 3) := by decide +kernel
theorem dX7_shownTo_33 : decode cX7_shownTo 33 = .ok (.iload_n 2, 1) := by decide +kernel
theorem dX7_shownTo_34 : decode cX7_shownTo 34 = .ok (.iload_n 3, 1) := by decide +kernel
theorem dX7_shownTo_35 : decode cX7_shownTo 35 = .ok (.iload_n 1, 1) := by decide +kernel
theorem dX7_shownTo_36 : decode cX7_shownTo 36 = .ok (.isub, 1) := by decide +kernel
theorem dX7_shownTo_37 : decode cX7_shownTo 37 = .ok (.invokestatic 89, 3) := by decide +kernel
theorem dX7_shownTo_40 : decode cX7_shownTo 40 = .ok (.iconst 1, 1) := by decide +kernel
theorem dX7_shownTo_41 : decode cX7_shownTo 41 = .ok (.if_icmp .ne 7, 3) := by decide +kernel
theorem dX7_shownTo_44 : decode cX7_shownTo 44 = .ok (.iconst 2, 1) := by decide +kernel
theorem dX7_shownTo_45 : decode cX7_shownTo 45 = .ok (.goto 4, 3) := by decide +kernel
theorem dX7_shownTo_48 : decode cX7_shownTo 48 = .ok (.iconst 1, 1) := by decide +kernel
theorem dX7_shownTo_49 : decode cX7_shownTo 49 = .ok (.invokestatic 94, 3) := by decide +kernel
theorem dX7_shownTo_52 : decode cX7_shownTo 52 = .ok (.istore_n 2, 1) := by decide +kernel
theorem dX7_shownTo_53 : decode cX7_shownTo 53 = .ok (.iinc 3 1, 3) := by decide +kernel
theorem dX7_shownTo_56 : decode cX7_shownTo 56 = .ok (.goto (-52), 3) := by decide +kernel
theorem dX7_shownTo_59 : decode cX7_shownTo 59 = .ok (.iload_n 2, 1) := by decide +kernel
theorem dX7_shownTo_60 : decode cX7_shownTo 60 = .ok (.ireturn, 1) := by decide +kernel
theorem dX7_passOn_0 : decode cX7_passOn 0 = .ok (.aload_n 0, 1) := by decide +kernel
theorem dX7_passOn_1 : decode cX7_passOn 1 = .ok (.iload_n 1, 1) := by decide +kernel
theorem dX7_passOn_2 : decode cX7_passOn 2 = .ok (.iconst 1, 1) := by decide +kernel
theorem dX7_passOn_3 : decode cX7_passOn 3 = .ok (.isub, 1) := by decide +kernel
theorem dX7_passOn_4 : decode cX7_passOn 4 = .ok (.invokevirtual 42, 3) := by decide +kernel
theorem dX7_passOn_7 : decode cX7_passOn 7 = .ok (.ifCond .eq 15, 3) := by decide +kernel
theorem dX7_passOn_10 : decode cX7_passOn 10 = .ok (.aload_n 0, 1) := by decide +kernel
theorem dX7_passOn_11 : decode cX7_passOn 11 = .ok (.getfield 11, 3) := by decide +kernel
theorem dX7_passOn_14 : decode cX7_passOn 14 = .ok (.iload_n 1, 1) := by decide +kernel
theorem dX7_passOn_15 : decode cX7_passOn 15 = .ok (.iconst 1, 1) := by decide +kernel
theorem dX7_passOn_16 : decode cX7_passOn 16 = .ok (.isub, 1) := by decide +kernel
theorem dX7_passOn_17 : decode cX7_passOn 17 = .ok (.aaload, 1) := by decide +kernel
theorem dX7_passOn_18 : decode cX7_passOn 18 = .ok (.iload_n 2, 1) := by decide +kernel
theorem dX7_passOn_19 : decode cX7_passOn 19 = .ok (.invokevirtual 71, 3) := by decide +kernel
theorem dX7_passOn_22 : decode cX7_passOn 22 = .ok (.aload_n 0, 1) := by decide +kernel
theorem dX7_passOn_23 : decode cX7_passOn 23 = .ok (.iload_n 1, 1) := by decide +kernel
theorem dX7_passOn_24 : decode cX7_passOn 24 = .ok (.iconst 1, 1) := by decide +kernel
theorem dX7_passOn_25 : decode cX7_passOn 25 = .ok (.iadd, 1) := by decide +kernel
theorem dX7_passOn_26 : decode cX7_passOn 26 = .ok (.invokevirtual 42, 3) := by decide +kernel
theorem dX7_passOn_29 : decode cX7_passOn 29 = .ok (.ifCond .eq 15, 3) := by decide +kernel
theorem dX7_passOn_32 : decode cX7_passOn 32 = .ok (.aload_n 0, 1) := by decide +kernel
theorem dX7_passOn_33 : decode cX7_passOn 33 = .ok (.getfield 11, 3) := by decide +kernel
theorem dX7_passOn_36 : decode cX7_passOn 36 = .ok (.iload_n 1, 1) := by decide +kernel
theorem dX7_passOn_37 : decode cX7_passOn 37 = .ok (.iconst 1, 1) := by decide +kernel
theorem dX7_passOn_38 : decode cX7_passOn 38 = .ok (.iadd, 1) := by decide +kernel
theorem dX7_passOn_39 : decode cX7_passOn 39 = .ok (.aaload, 1) := by decide +kernel
theorem dX7_passOn_40 : decode cX7_passOn 40 = .ok (.iload_n 2, 1) := by decide +kernel
theorem dX7_passOn_41 : decode cX7_passOn 41 = .ok (.invokevirtual 71, 3) := by decide +kernel
theorem dX7_passOn_44 : decode cX7_passOn 44 = .ok (.return_, 1) := by decide +kernel
theorem dX7_neighbours_0 : decode cX7_neighbours 0 = .ok (.aload_n 0, 1) := by decide +kernel
theorem dX7_neighbours_1 : decode cX7_neighbours 1 = .ok (.iload_n 1, 1) := by decide +kernel
theorem dX7_neighbours_2 : decode cX7_neighbours 2 = .ok (.iconst 1, 1) := by decide +kernel
theorem dX7_neighbours_3 : decode cX7_neighbours 3 = .ok (.isub, 1) := by decide +kernel
theorem dX7_neighbours_4 : decode cX7_neighbours 4 = .ok (.invokevirtual 42, 3) := by decide +kernel
theorem dX7_neighbours_7 : decode cX7_neighbours 7 = .ok (.ifCond .eq 7, 3) := by decide +kernel
theorem dX7_neighbours_10 : decode cX7_neighbours 10 = .ok (.iconst 1, 1) := by decide +kernel
theorem dX7_neighbours_11 : decode cX7_neighbours 11 = .ok (.goto 4, 3) := by decide +kernel
theorem dX7_neighbours_14 : decode cX7_neighbours 14 = .ok (.iconst 0, 1) := by decide +kernel
theorem dX7_neighbours_15 : decode cX7_neighbours 15 = .ok (.aload_n 0, 1) := by decide +kernel
theorem dX7_neighbours_16 : decode cX7_neighbours 16 = .ok (.iload_n 1, 1) := by decide +kernel
theorem dX7_neighbours_17 : decode cX7_neighbours 17 = .ok (.iconst 1, 1) := by decide +kernel
theorem dX7_neighbours_18 : decode cX7_neighbours 18 = .ok (.iadd, 1) := by decide +kernel
theorem dX7_neighbours_19 : decode cX7_neighbours 19 = .ok (.invokevirtual 42, 3) := by decide +kernel
theorem dX7_neighbours_22 : decode cX7_neighbours 22 = .ok (.ifCond .eq 7, 3) := by decide +kernel
theorem dX7_neighbours_25 : decode cX7_neighbours 25 = .ok (.iconst 1, 1) := by decide +kernel
theorem dX7_neighbours_26 : decode cX7_neighbours 26 = .ok (.goto 4, 3) := by decide +kernel
theorem dX7_neighbours_29 : decode cX7_neighbours 29 = .ok (.iconst 0, 1) := by decide +kernel
theorem dX7_neighbours_30 : decode cX7_neighbours 30 = .ok (.iadd, 1) := by decide +kernel
theorem dX7_neighbours_31 : decode cX7_neighbours 31 = .ok (.ireturn, 1) := by decide +kernel
theorem dX7_takeTurn_0 : decode cX7_takeTurn 0 = .ok (.iconst 0, 1) := by decide +kernel
theorem dX7_takeTurn_1 : decode cX7_takeTurn 1 = .ok (.istore_n 1, 1) := by decide +kernel
theorem dX7_takeTurn_2 : decode cX7_takeTurn 2 = .ok (.iload_n 1, 1) := by decide +kernel
theorem dX7_takeTurn_3 : decode cX7_takeTurn 3 = .ok (.aload_n 0, 1) := by decide +kernel
theorem dX7_takeTurn_4 : decode cX7_takeTurn 4 = .ok (.getfield 24, 3) := by decide +kernel
theorem dX7_takeTurn_7 : decode cX7_takeTurn 7 = .ok (.if_icmp .ge 67, 3) := by decide +kernel
theorem dX7_takeTurn_10 : decode cX7_takeTurn 10 = .ok (.aload_n 0, 1) := by decide +kernel
theorem dX7_takeTurn_11 : decode cX7_takeTurn 11 = .ok (.getfield 35, 3) := by decide +kernel
theorem dX7_takeTurn_14 : decode cX7_takeTurn 14 = .ok (.iload_n 1, 1) := by decide +kernel
theorem dX7_takeTurn_15 : decode cX7_takeTurn 15 = .ok (.iadd, 1) := by decide +kernel
theorem dX7_takeTurn_16 : decode cX7_takeTurn 16 = .ok (.aload_n 0, 1) := by decide +kernel
theorem dX7_takeTurn_17 : decode cX7_takeTurn 17 = .ok (.getfield 24, 3) := by decide +kernel
theorem dX7_takeTurn_20 : decode cX7_takeTurn 20 = .ok (.irem, 1) := by decide +kernel
theorem dX7_takeTurn_21 : decode cX7_takeTurn 21 = .ok (.istore_n 2, 1) := by decide +kernel
theorem dX7_takeTurn_22 : decode cX7_takeTurn 22 = .ok (.aload_n 0, 1) := by decide +kernel
theorem dX7_takeTurn_23 : decode cX7_takeTurn 23 = .ok (.getfield 11, 3) := by decide +kernel
theorem dX7_takeTurn_26 : decode cX7_takeTurn 26 = .ok (.iload_n 2, 1) := by decide +kernel
theorem dX7_takeTurn_27 : decode cX7_takeTurn 27 = .ok (.aaload, 1) := by decide +kernel
theorem dX7_takeTurn_28 : decode cX7_takeTurn 28 = .ok (.invokevirtual 46, 3) := by decide +kernel
theorem dX7_takeTurn_31 : decode cX7_takeTurn 31 = .ok (.ifCond .ne 37, 3) := by decide +kernel
theorem dX7_takeTurn_34 : decode cX7_takeTurn 34 = .ok (.aload_n 0, 1) := by decide +kernel
theorem dX7_takeTurn_35 : decode cX7_takeTurn 35 = .ok (.getfield 11, 3) := by decide +kernel
theorem dX7_takeTurn_38 : decode cX7_takeTurn 38 = .ok (.iload_n 2, 1) := by decide +kernel
theorem dX7_takeTurn_39 : decode cX7_takeTurn 39 = .ok (.aaload, 1) := by decide +kernel
theorem dX7_takeTurn_40 : decode cX7_takeTurn 40 = .ok (.invokevirtual 98, 3) := by decide +kernel
theorem dX7_takeTurn_43 : decode cX7_takeTurn 43 = .ok (.ifCond .eq 7, 3) := by decide +kernel
theorem dX7_takeTurn_46 : decode cX7_takeTurn 46 = .ok (.iconst 2, 1) := by decide +kernel
theorem dX7_takeTurn_47 : decode cX7_takeTurn 47 = .ok (.goto 4, 3) := by decide +kernel
theorem dX7_takeTurn_50 : decode cX7_takeTurn 50 = .ok (.iconst 0, 1) := by decide +kernel
theorem dX7_takeTurn_51 : decode cX7_takeTurn 51 = .ok (.istore_n 3, 1) := by decide +kernel
theorem dX7_takeTurn_52 : decode cX7_takeTurn 52 = .ok (.aload_n 0, 1) := by decide +kernel
theorem dX7_takeTurn_53 : decode cX7_takeTurn 53 = .ok (.iload_n 2, 1) := by decide +kernel
theorem dX7_takeTurn_54 : decode cX7_takeTurn 54 = .ok (.iload_n 3, 1) := by decide +kernel
theorem dX7_takeTurn_55 : decode cX7_takeTurn 55 = .ok (.invokevirtual 101, 3) := by decide +kernel
theorem dX7_takeTurn_58 : decode cX7_takeTurn 58 = .ok (.pop, 1) := by decide +kernel
theorem dX7_takeTurn_59 : decode cX7_takeTurn 59 = .ok (.aload_n 0, 1) := by decide +kernel
theorem dX7_takeTurn_60 : decode cX7_takeTurn 60 = .ok (.iload_n 2, 1) := by decide +kernel
theorem dX7_takeTurn_61 : decode cX7_takeTurn 61 = .ok (.iconst 1, 1) := by decide +kernel
theorem dX7_takeTurn_62 : decode cX7_takeTurn 62 = .ok (.iadd, 1) := by decide +kernel
theorem dX7_takeTurn_63 : decode cX7_takeTurn 63 = .ok (.putfield 35, 3) := by decide +kernel
theorem dX7_takeTurn_66 : decode cX7_takeTurn 66 = .ok (.iload_n 3, 1) := by decide +kernel
theorem dX7_takeTurn_67 : decode cX7_takeTurn 67 = .ok (.ireturn, 1) := by decide +kernel
theorem dX7_takeTurn_68 : decode cX7_takeTurn 68 = .ok (.iinc 1 1, 3) := by decide +kernel
theorem dX7_takeTurn_71 : decode cX7_takeTurn 71 = .ok (.goto (-69), 3) := by decide +kernel
theorem dX7_takeTurn_74 : decode cX7_takeTurn 74 = .ok (.bipush (-4), 2) := by decide +kernel
theorem dX7_takeTurn_76 : decode cX7_takeTurn 76 = .ok (.ireturn, 1) := by decide +kernel
theorem dX7_obeys_0 : decode cX7_obeys 0 = .ok (.aload_n 1, 1) := by decide +kernel
theorem dX7_obeys_1 : decode cX7_obeys 1 = .ok (.iload_n 2, 1) := by decide +kernel
theorem dX7_obeys_2 : decode cX7_obeys 2 = .ok (.iconst 1, 1) := by decide +kernel
theorem dX7_obeys_3 : decode cX7_obeys 3 = .ok (.iadd, 1) := by decide +kernel
theorem dX7_obeys_4 : decode cX7_obeys 4 = .ok (.iconst 1, 1) := by decide +kernel
theorem dX7_obeys_5 : decode cX7_obeys 5 = .ok (.invokevirtual 105, 3) := by decide +kernel
theorem dX7_obeys_8 : decode cX7_obeys 8 = .ok (.istore_n 3, 1) := by decide +kernel
theorem dX7_obeys_9 : decode cX7_obeys 9 = .ok (.aload_n 1, 1) := by decide +kernel
theorem dX7_obeys_10 : decode cX7_obeys 10 = .ok (.iload_n 2, 1) := by decide +kernel
theorem dX7_obeys_11 : decode cX7_obeys 11 = .ok (.iconst 2, 1) := by decide +kernel
theorem dX7_obeys_12 : decode cX7_obeys 12 = .ok (.iadd, 1) := by decide +kernel
theorem dX7_obeys_13 : decode cX7_obeys 13 = .ok (.iconst 1, 1) := by decide +kernel
theorem dX7_obeys_14 : decode cX7_obeys 14 = .ok (.invokevirtual 105, 3) := by decide +kernel
theorem dX7_obeys_17 : decode cX7_obeys 17 = .ok (.istore 4, 2) := by decide +kernel
theorem dX7_obeys_19 : decode cX7_obeys 19 = .ok (.aload_n 1, 1) := by decide +kernel
theorem dX7_obeys_20 : decode cX7_obeys 20 = .ok (.iload_n 2, 1) := by decide +kernel
theorem dX7_obeys_21 : decode cX7_obeys 21 = .ok (.invokevirtual 110, 3) := by decide +kernel
theorem dX7_obeys_24 : decode cX7_obeys 24 = .ok (.lookupswitch 105 #[(98, 76), (99, 52), (109, 68), (116, 91), (120, 83)], 52) := by decide +kernel
theorem dX7_obeys_76 : decode cX7_obeys 76 = .ok (.aload_n 0, 1) := by decide +kernel
theorem dX7_obeys_77 : decode cX7_obeys 77 = .ok (.iload_n 3, 1) := by decide +kernel
theorem dX7_obeys_78 : decode cX7_obeys 78 = .ok (.iload 4, 2) := by decide +kernel
theorem dX7_obeys_80 : decode cX7_obeys 80 = .ok (.aload_n 1, 1) := by decide +kernel
theorem dX7_obeys_81 : decode cX7_obeys 81 = .ok (.iload_n 2, 1) := by decide +kernel
theorem dX7_obeys_82 : decode cX7_obeys 82 = .ok (.iconst 3, 1) := by decide +kernel
theorem dX7_obeys_83 : decode cX7_obeys 83 = .ok (.iadd, 1) := by decide +kernel
theorem dX7_obeys_84 : decode cX7_obeys 84 = .ok (.iconst 2, 1) := by decide +kernel
theorem dX7_obeys_85 : decode cX7_obeys 85 = .ok (.invokevirtual 105, 3) := by decide +kernel
theorem dX7_obeys_88 : decode cX7_obeys 88 = .ok (.invokevirtual 113, 3) := by decide +kernel
theorem dX7_obeys_91 : decode cX7_obeys 91 = .ok (.ireturn, 1) := by decide +kernel
theorem dX7_obeys_92 : decode cX7_obeys 92 = .ok (.aload_n 0, 1) := by decide +kernel
theorem dX7_obeys_93 : decode cX7_obeys 93 = .ok (.iload_n 3, 1) := by decide +kernel
theorem dX7_obeys_94 : decode cX7_obeys 94 = .ok (.iload 4, 2) := by decide +kernel
theorem dX7_obeys_96 : decode cX7_obeys 96 = .ok (.invokevirtual 116, 3) := by decide +kernel
theorem dX7_obeys_99 : decode cX7_obeys 99 = .ok (.ireturn, 1) := by decide +kernel
theorem dX7_obeys_100 : decode cX7_obeys 100 = .ok (.aload_n 0, 1) := by decide +kernel
theorem dX7_obeys_101 : decode cX7_obeys 101 = .ok (.iload_n 3, 1) := by decide +kernel
theorem dX7_obeys_102 : decode cX7_obeys 102 = .ok (.invokevirtual 119, 3) := by decide +kernel
theorem dX7_obeys_105 : decode cX7_obeys 105 = .ok (.iconst 1, 1) := by decide +kernel
theorem dX7_obeys_106 : decode cX7_obeys 106 = .ok (.ireturn, 1) := by decide +kernel
theorem dX7_obeys_107 : decode cX7_obeys 107 = .ok (.aload_n 0, 1) := by decide +kernel
theorem dX7_obeys_108 : decode cX7_obeys 108 = .ok (.iload_n 3, 1) := by decide +kernel
theorem dX7_obeys_109 : decode cX7_obeys 109 = .ok (.iload 4, 2) := by decide +kernel
theorem dX7_obeys_111 : decode cX7_obeys 111 = .ok (.invokevirtual 122, 3) := by decide +kernel
theorem dX7_obeys_114 : decode cX7_obeys 114 = .ok (.ireturn, 1) := by decide +kernel
theorem dX7_obeys_115 : decode cX7_obeys 115 = .ok (.aload_n 0, 1) := by decide +kernel
theorem dX7_obeys_116 : decode cX7_obeys 116 = .ok (.iload_n 3, 1) := by decide +kernel
theorem dX7_obeys_117 : decode cX7_obeys 117 = .ok (.aload_n 1, 1) := by decide +kernel
theorem dX7_obeys_118 : decode cX7_obeys 118 = .ok (.iload_n 2, 1) := by decide +kernel
theorem dX7_obeys_119 : decode cX7_obeys 119 = .ok (.iconst 2, 1) := by decide +kernel
theorem dX7_obeys_120 : decode cX7_obeys 120 = .ok (.iadd, 1) := by decide +kernel
theorem dX7_obeys_121 : decode cX7_obeys 121 = .ok (.iconst 2, 1) := by decide +kernel
theorem dX7_obeys_122 : decode cX7_obeys 122 = .ok (.invokevirtual 105, 3) := by decide +kernel
theorem dX7_obeys_125 : decode cX7_obeys 125 = .ok (.invokevirtual 125, 3) := by decide +kernel
theorem dX7_obeys_128 : decode cX7_obeys 128 = .ok (.ireturn, 1) := by decide +kernel
theorem dX7_obeys_129 : decode cX7_obeys 129 = .ok (.aload_n 0, 1) := by decide +kernel
theorem dX7_obeys_130 : decode cX7_obeys 130 = .ok (.iload_n 3, 1) := by decide +kernel
theorem dX7_obeys_131 : decode cX7_obeys 131 = .ok (.iload 4, 2) := by decide +kernel
theorem dX7_obeys_133 : decode cX7_obeys 133 = .ok (.invokevirtual 128, 3) := by decide +kernel
theorem dX7_obeys_136 : decode cX7_obeys 136 = .ok (.ireturn, 1) := by decide +kernel
theorem dX7_obeysCome_0 : decode cX7_obeysCome 0 = .ok (.aload_n 0, 1) := by decide +kernel
theorem dX7_obeysCome_1 : decode cX7_obeysCome 1 = .ok (.invokevirtual 131, 3) := by decide +kernel
theorem dX7_obeysCome_4 : decode cX7_obeysCome 4 = .ok (.ifCond .eq 15, 3) := by decide +kernel
theorem dX7_obeysCome_7 : decode cX7_obeysCome 7 = .ok (.iload_n 1, 1) := by decide +kernel
theorem dX7_obeysCome_8 : decode cX7_obeysCome 8 = .ok (.bipush 7, 2) := by decide +kernel
theorem dX7_obeysCome_10 : decode cX7_obeysCome 10 = .ok (.if_icmp .gt 9, 3) := by decide +kernel
theorem dX7_obeysCome_13 : decode cX7_obeysCome 13 = .ok (.iload_n 3, 1) := by decide +kernel
theorem dX7_obeysCome_14 : decode cX7_obeysCome 14 = .ok (.bipush 20, 2) := by decide +kernel
theorem dX7_obeysCome_16 : decode cX7_obeysCome 16 = .ok (.if_icmp .le 5, 3) := by decide +kernel
theorem dX7_obeysCome_19 : decode cX7_obeysCome 19 = .ok (.iconst 0, 1) := by decide +kernel
theorem dX7_obeysCome_20 : decode cX7_obeysCome 20 = .ok (.ireturn, 1) := by decide +kernel
theorem dX7_obeysCome_21 : decode cX7_obeysCome 21 = .ok (.aload_n 0, 1) := by decide +kernel
theorem dX7_obeysCome_22 : decode cX7_obeysCome 22 = .ok (.iload_n 1, 1) := by decide +kernel
theorem dX7_obeysCome_23 : decode cX7_obeysCome 23 = .ok (.iload_n 2, 1) := by decide +kernel
theorem dX7_obeysCome_24 : decode cX7_obeysCome 24 = .ok (.invokestatic 134, 3) := by decide +kernel
theorem dX7_obeysCome_27 : decode cX7_obeysCome 27 = .ok (.iload_n 3, 1) := by decide +kernel
theorem dX7_obeysCome_28 : decode cX7_obeysCome 28 = .ok (.invokevirtual 138, 3) := by decide +kernel
theorem dX7_obeysCome_31 : decode cX7_obeysCome 31 = .ok (.iconst 1, 1) := by decide +kernel
theorem dX7_obeysCome_32 : decode cX7_obeysCome 32 = .ok (.ireturn, 1) := by decide +kernel
theorem dX7_obeysMinute_0 : decode cX7_obeysMinute 0 = .ok (.aload_n 0, 1) := by decide +kernel
theorem dX7_obeysMinute_1 : decode cX7_obeysMinute 1 = .ok (.iload_n 1, 1) := by decide +kernel
theorem dX7_obeysMinute_2 : decode cX7_obeysMinute 2 = .ok (.iload_n 2, 1) := by decide +kernel
theorem dX7_obeysMinute_3 : decode cX7_obeysMinute 3 = .ok (.invokevirtual 142, 3) := by decide +kernel
theorem dX7_obeysMinute_6 : decode cX7_obeysMinute 6 = .ok (.ifCond .eq 13, 3) := by decide +kernel
theorem dX7_obeysMinute_9 : decode cX7_obeysMinute 9 = .ok (.aload_n 0, 1) := by decide +kernel
theorem dX7_obeysMinute_10 : decode cX7_obeysMinute 10 = .ok (.getfield 32, 3) := by decide +kernel
theorem dX7_obeysMinute_13 : decode cX7_obeysMinute 13 = .ok (.sipush 999, 3) := by decide +kernel
theorem dX7_obeysMinute_16 : decode cX7_obeysMinute 16 = .ok (.if_icmp .lt 5, 3) := by decide +kernel
theorem dX7_obeysMinute_19 : decode cX7_obeysMinute 19 = .ok (.iconst 0, 1) := by decide +kernel
theorem dX7_obeysMinute_20 : decode cX7_obeysMinute 20 = .ok (.ireturn, 1) := by decide +kernel
theorem dX7_obeysMinute_21 : decode cX7_obeysMinute 21 = .ok (.aload_n 0, 1) := by decide +kernel
theorem dX7_obeysMinute_22 : decode cX7_obeysMinute 22 = .ok (.iload_n 1, 1) := by decide +kernel
theorem dX7_obeysMinute_23 : decode cX7_obeysMinute 23 = .ok (.iload_n 2, 1) := by decide +kernel
theorem dX7_obeysMinute_24 : decode cX7_obeysMinute 24 = .ok (.invokevirtual 101, 3) := by decide +kernel
theorem dX7_obeysMinute_27 : decode cX7_obeysMinute 27 = .ok (.pop, 1) := by decide +kernel
theorem dX7_obeysMinute_28 : decode cX7_obeysMinute 28 = .ok (.iconst 1, 1) := by decide +kernel
theorem dX7_obeysMinute_29 : decode cX7_obeysMinute 29 = .ok (.ireturn, 1) := by decide +kernel
theorem dX7_obeysChange_0 : decode cX7_obeysChange 0 = .ok (.aload_n 0, 1) := by decide +kernel
theorem dX7_obeysChange_1 : decode cX7_obeysChange 1 = .ok (.iload_n 1, 1) := by decide +kernel
theorem dX7_obeysChange_2 : decode cX7_obeysChange 2 = .ok (.iload_n 2, 1) := by decide +kernel
theorem dX7_obeysChange_3 : decode cX7_obeysChange 3 = .ok (.invokevirtual 145, 3) := by decide +kernel
theorem dX7_obeysChange_6 : decode cX7_obeysChange 6 = .ok (.ifCond .ne 5, 3) := by decide +kernel
theorem dX7_obeysChange_9 : decode cX7_obeysChange 9 = .ok (.iconst 0, 1) := by decide +kernel
theorem dX7_obeysChange_10 : decode cX7_obeysChange 10 = .ok (.ireturn, 1) := by decide +kernel
theorem dX7_obeysChange_11 : decode cX7_obeysChange 11 = .ok (.aload_n 0, 1) := by decide +kernel
theorem dX7_obeysChange_12 : decode cX7_obeysChange 12 = .ok (.iload_n 1, 1) := by decide +kernel
theorem dX7_obeysChange_13 : decode cX7_obeysChange 13 = .ok (.iload_n 2, 1) := by decide +kernel
theorem dX7_obeysChange_14 : decode cX7_obeysChange 14 = .ok (.invokevirtual 148, 3) := by decide +kernel
theorem dX7_obeysChange_17 : decode cX7_obeysChange 17 = .ok (.iconst 1, 1) := by decide +kernel
theorem dX7_obeysChange_18 : decode cX7_obeysChange 18 = .ok (.ireturn, 1) := by decide +kernel
theorem dX7_obeysTrust_0 : decode cX7_obeysTrust 0 = .ok (.aload_n 0, 1) := by decide +kernel
theorem dX7_obeysTrust_1 : decode cX7_obeysTrust 1 = .ok (.iload_n 1, 1) := by decide +kernel
theorem dX7_obeysTrust_2 : decode cX7_obeysTrust 2 = .ok (.invokevirtual 42, 3) := by decide +kernel
theorem dX7_obeysTrust_5 : decode cX7_obeysTrust 5 = .ok (.ifCond .eq 9, 3) := by decide +kernel
theorem dX7_obeysTrust_8 : decode cX7_obeysTrust 8 = .ok (.iload_n 2, 1) := by decide +kernel
theorem dX7_obeysTrust_9 : decode cX7_obeysTrust 9 = .ok (.bipush 20, 2) := by decide +kernel
theorem dX7_obeysTrust_11 : decode cX7_obeysTrust 11 = .ok (.if_icmp .le 5, 3) := by decide +kernel
theorem dX7_obeysTrust_14 : decode cX7_obeysTrust 14 = .ok (.iconst 0, 1) := by decide +kernel
theorem dX7_obeysTrust_15 : decode cX7_obeysTrust 15 = .ok (.ireturn, 1) := by decide +kernel
theorem dX7_obeysTrust_16 : decode cX7_obeysTrust 16 = .ok (.aload_n 0, 1) := by decide +kernel
theorem dX7_obeysTrust_17 : decode cX7_obeysTrust 17 = .ok (.getfield 11, 3) := by decide +kernel
theorem dX7_obeysTrust_20 : decode cX7_obeysTrust 20 = .ok (.iload_n 1, 1) := by decide +kernel
theorem dX7_obeysTrust_21 : decode cX7_obeysTrust 21 = .ok (.aaload, 1) := by decide +kernel
theorem dX7_obeysTrust_22 : decode cX7_obeysTrust 22 = .ok (.iload_n 2, 1) := by decide +kernel
theorem dX7_obeysTrust_23 : decode cX7_obeysTrust 23 = .ok (.putfield 54, 3) := by decide +kernel
theorem dX7_obeysTrust_26 : decode cX7_obeysTrust 26 = .ok (.iconst 1, 1) := by decide +kernel
theorem dX7_obeysTrust_27 : decode cX7_obeysTrust 27 = .ok (.ireturn, 1) := by decide +kernel
theorem dX7_obeysStep_0 : decode cX7_obeysStep 0 = .ok (.aload_n 0, 1) := by decide +kernel
theorem dX7_obeysStep_1 : decode cX7_obeysStep 1 = .ok (.iload_n 1, 1) := by decide +kernel
theorem dX7_obeysStep_2 : decode cX7_obeysStep 2 = .ok (.invokevirtual 42, 3) := by decide +kernel
theorem dX7_obeysStep_5 : decode cX7_obeysStep 5 = .ok (.ifCond .eq 9, 3) := by decide +kernel
theorem dX7_obeysStep_8 : decode cX7_obeysStep 8 = .ok (.iload_n 2, 1) := by decide +kernel
theorem dX7_obeysStep_9 : decode cX7_obeysStep 9 = .ok (.bipush 7, 2) := by decide +kernel
theorem dX7_obeysStep_11 : decode cX7_obeysStep 11 = .ok (.if_icmp .le 5, 3) := by decide +kernel
theorem dX7_obeysStep_14 : decode cX7_obeysStep 14 = .ok (.iconst 0, 1) := by decide +kernel
theorem dX7_obeysStep_15 : decode cX7_obeysStep 15 = .ok (.ireturn, 1) := by decide +kernel
theorem dX7_obeysStep_16 : decode cX7_obeysStep 16 = .ok (.aload_n 0, 1) := by decide +kernel
theorem dX7_obeysStep_17 : decode cX7_obeysStep 17 = .ok (.getfield 11, 3) := by decide +kernel
theorem dX7_obeysStep_20 : decode cX7_obeysStep 20 = .ok (.iload_n 1, 1) := by decide +kernel
theorem dX7_obeysStep_21 : decode cX7_obeysStep 21 = .ok (.aaload, 1) := by decide +kernel
theorem dX7_obeysStep_22 : decode cX7_obeysStep 22 = .ok (.iload_n 2, 1) := by decide +kernel
theorem dX7_obeysStep_23 : decode cX7_obeysStep 23 = .ok (.putfield 57, 3) := by decide +kernel
theorem dX7_obeysStep_26 : decode cX7_obeysStep 26 = .ok (.iconst 1, 1) := by decide +kernel
theorem dX7_obeysStep_27 : decode cX7_obeysStep 27 = .ok (.ireturn, 1) := by decide +kernel
theorem dX7_anyCanStep_0 : decode cX7_anyCanStep 0 = .ok (.iconst 0, 1) := by decide +kernel
theorem dX7_anyCanStep_1 : decode cX7_anyCanStep 1 = .ok (.istore_n 1, 1) := by decide +kernel
theorem dX7_anyCanStep_2 : decode cX7_anyCanStep 2 = .ok (.iload_n 1, 1) := by decide +kernel
theorem dX7_anyCanStep_3 : decode cX7_anyCanStep 3 = .ok (.aload_n 0, 1) := by decide +kernel
theorem dX7_anyCanStep_4 : decode cX7_anyCanStep 4 = .ok (.getfield 24, 3) := by decide +kernel
theorem dX7_anyCanStep_7 : decode cX7_anyCanStep 7 = .ok (.if_icmp .ge 35, 3) := by decide +kernel
theorem dX7_anyCanStep_10 : decode cX7_anyCanStep 10 = .ok (.aload_n 0, 1) := by decide +kernel
theorem dX7_anyCanStep_11 : decode cX7_anyCanStep 11 = .ok (.getfield 11, 3) := by decide +kernel
theorem dX7_anyCanStep_14 : decode cX7_anyCanStep 14 = .ok (.iload_n 1, 1) := by decide +kernel
theorem dX7_anyCanStep_15 : decode cX7_anyCanStep 15 = .ok (.aaload, 1) := by decide +kernel
theorem dX7_anyCanStep_16 : decode cX7_anyCanStep 16 = .ok (.invokevirtual 98, 3) := by decide +kernel
theorem dX7_anyCanStep_19 : decode cX7_anyCanStep 19 = .ok (.ifCond .ne 15, 3) := by decide +kernel
theorem dX7_anyCanStep_22 : decode cX7_anyCanStep 22 = .ok (.aload_n 0, 1) := by decide +kernel
theorem dX7_anyCanStep_23 : decode cX7_anyCanStep 23 = .ok (.getfield 11, 3) := by decide +kernel
theorem dX7_anyCanStep_26 : decode cX7_anyCanStep 26 = .ok (.iload_n 1, 1) := by decide +kernel
theorem dX7_anyCanStep_27 : decode cX7_anyCanStep 27 = .ok (.aaload, 1) := by decide +kernel
theorem dX7_anyCanStep_28 : decode cX7_anyCanStep 28 = .ok (.invokevirtual 151, 3) := by decide +kernel
theorem dX7_anyCanStep_31 : decode cX7_anyCanStep 31 = .ok (.ifCond .eq 5, 3) := by decide +kernel
theorem dX7_anyCanStep_34 : decode cX7_anyCanStep 34 = .ok (.iconst 1, 1) := by decide +kernel
theorem dX7_anyCanStep_35 : decode cX7_anyCanStep 35 = .ok (.ireturn, 1) := by decide +kernel
theorem dX7_anyCanStep_36 : decode cX7_anyCanStep 36 = .ok (.iinc 1 1, 3) := by decide +kernel
theorem dX7_anyCanStep_39 : decode cX7_anyCanStep 39 = .ok (.goto (-37), 3) := by decide +kernel
theorem dX7_anyCanStep_42 : decode cX7_anyCanStep 42 = .ok (.iconst 0, 1) := by decide +kernel
theorem dX7_anyCanStep_43 : decode cX7_anyCanStep 43 = .ok (.ireturn, 1) := by decide +kernel
theorem dX7_readyBits_0 : decode cX7_readyBits 0 = .ok (.iconst 0, 1) := by decide +kernel
theorem dX7_readyBits_1 : decode cX7_readyBits 1 = .ok (.istore_n 1, 1) := by decide +kernel
theorem dX7_readyBits_2 : decode cX7_readyBits 2 = .ok (.iconst 0, 1) := by decide +kernel
theorem dX7_readyBits_3 : decode cX7_readyBits 3 = .ok (.istore_n 2, 1) := by decide +kernel
theorem dX7_readyBits_4 : decode cX7_readyBits 4 = .ok (.iload_n 2, 1) := by decide +kernel
theorem dX7_readyBits_5 : decode cX7_readyBits 5 = .ok (.aload_n 0, 1) := by decide +kernel
theorem dX7_readyBits_6 : decode cX7_readyBits 6 = .ok (.getfield 24, 3) := by decide +kernel
theorem dX7_readyBits_9 : decode cX7_readyBits 9 = .ok (.if_icmp .ge 31, 3) := by decide +kernel
theorem dX7_readyBits_12 : decode cX7_readyBits 12 = .ok (.iload_n 1, 1) := by decide +kernel
theorem dX7_readyBits_13 : decode cX7_readyBits 13 = .ok (.aload_n 0, 1) := by decide +kernel
theorem dX7_readyBits_14 : decode cX7_readyBits 14 = .ok (.getfield 11, 3) := by decide +kernel
theorem dX7_readyBits_17 : decode cX7_readyBits 17 = .ok (.iload_n 2, 1) := by decide +kernel
theorem dX7_readyBits_18 : decode cX7_readyBits 18 = .ok (.aaload, 1) := by decide +kernel
theorem dX7_readyBits_19 : decode cX7_readyBits 19 = .ok (.invokevirtual 98, 3) := by decide +kernel
theorem dX7_readyBits_22 : decode cX7_readyBits 22 = .ok (.ifCond .eq 9, 3) := by decide +kernel
theorem dX7_readyBits_25 : decode cX7_readyBits 25 = .ok (.iconst 1, 1) := by decide +kernel
theorem dX7_readyBits_26 : decode cX7_readyBits 26 = .ok (.iload_n 2, 1) := by decide +kernel
theorem dX7_readyBits_27 : decode cX7_readyBits 27 = .ok (.ishl, 1) := by decide +kernel
theorem dX7_readyBits_28 : decode cX7_readyBits 28 = .ok (.goto 4, 3) := by decide +kernel
theorem dX7_readyBits_31 : decode cX7_readyBits 31 = .ok (.iconst 0, 1) := by decide +kernel
theorem dX7_readyBits_32 : decode cX7_readyBits 32 = .ok (.ior, 1) := by decide +kernel
theorem dX7_readyBits_33 : decode cX7_readyBits 33 = .ok (.istore_n 1, 1) := by decide +kernel
theorem dX7_readyBits_34 : decode cX7_readyBits 34 = .ok (.iinc 2 1, 3) := by decide +kernel
theorem dX7_readyBits_37 : decode cX7_readyBits 37 = .ok (.goto (-33), 3) := by decide +kernel
theorem dX7_readyBits_40 : decode cX7_readyBits 40 = .ok (.iload_n 1, 1) := by decide +kernel
theorem dX7_readyBits_41 : decode cX7_readyBits 41 = .ok (.ireturn, 1) := by decide +kernel
theorem dX7_swimBits_0 : decode cX7_swimBits 0 = .ok (.iconst 0, 1) := by decide +kernel
theorem dX7_swimBits_1 : decode cX7_swimBits 1 = .ok (.istore_n 1, 1) := by decide +kernel
theorem dX7_swimBits_2 : decode cX7_swimBits 2 = .ok (.iconst 0, 1) := by decide +kernel
theorem dX7_swimBits_3 : decode cX7_swimBits 3 = .ok (.istore_n 2, 1) := by decide +kernel
theorem dX7_swimBits_4 : decode cX7_swimBits 4 = .ok (.iload_n 2, 1) := by decide +kernel
theorem dX7_swimBits_5 : decode cX7_swimBits 5 = .ok (.aload_n 0, 1) := by decide +kernel
theorem dX7_swimBits_6 : decode cX7_swimBits 6 = .ok (.getfield 24, 3) := by decide +kernel
theorem dX7_swimBits_9 : decode cX7_swimBits 9 = .ok (.if_icmp .ge 31, 3) := by decide +kernel
theorem dX7_swimBits_12 : decode cX7_swimBits 12 = .ok (.iload_n 1, 1) := by decide +kernel
theorem dX7_swimBits_13 : decode cX7_swimBits 13 = .ok (.aload_n 0, 1) := by decide +kernel
theorem dX7_swimBits_14 : decode cX7_swimBits 14 = .ok (.getfield 11, 3) := by decide +kernel
theorem dX7_swimBits_17 : decode cX7_swimBits 17 = .ok (.iload_n 2, 1) := by decide +kernel
theorem dX7_swimBits_18 : decode cX7_swimBits 18 = .ok (.aaload, 1) := by decide +kernel
theorem dX7_swimBits_19 : decode cX7_swimBits 19 = .ok (.invokevirtual 46, 3) := by decide +kernel
theorem dX7_swimBits_22 : decode cX7_swimBits 22 = .ok (.ifCond .eq 9, 3) := by decide +kernel
theorem dX7_swimBits_25 : decode cX7_swimBits 25 = .ok (.iconst 1, 1) := by decide +kernel
theorem dX7_swimBits_26 : decode cX7_swimBits 26 = .ok (.iload_n 2, 1) := by decide +kernel
theorem dX7_swimBits_27 : decode cX7_swimBits 27 = .ok (.ishl, 1) := by decide +kernel
theorem dX7_swimBits_28 : decode cX7_swimBits 28 = .ok (.goto 4, 3) := by decide +kernel
theorem dX7_swimBits_31 : decode cX7_swimBits 31 = .ok (.iconst 0, 1) := by decide +kernel
theorem dX7_swimBits_32 : decode cX7_swimBits 32 = .ok (.ior, 1) := by decide +kernel
theorem dX7_swimBits_33 : decode cX7_swimBits 33 = .ok (.istore_n 1, 1) := by decide +kernel
theorem dX7_swimBits_34 : decode cX7_swimBits 34 = .ok (.iinc 2 1, 3) := by decide +kernel
theorem dX7_swimBits_37 : decode cX7_swimBits 37 = .ok (.goto (-33), 3) := by decide +kernel
theorem dX7_swimBits_40 : decode cX7_swimBits 40 = .ok (.iload_n 1, 1) := by decide +kernel
theorem dX7_swimBits_41 : decode cX7_swimBits 41 = .ok (.ireturn, 1) := by decide +kernel
theorem dX7_holdsOf_0 : decode cX7_holdsOf 0 = .ok (.iconst 0, 1) := by decide +kernel
theorem dX7_holdsOf_1 : decode cX7_holdsOf 1 = .ok (.istore_n 2, 1) := by decide +kernel
theorem dX7_holdsOf_2 : decode cX7_holdsOf 2 = .ok (.iconst 0, 1) := by decide +kernel
theorem dX7_holdsOf_3 : decode cX7_holdsOf 3 = .ok (.istore_n 3, 1) := by decide +kernel
theorem dX7_holdsOf_4 : decode cX7_holdsOf 4 = .ok (.iload_n 3, 1) := by decide +kernel
theorem dX7_holdsOf_5 : decode cX7_holdsOf 5 = .ok (.aload_n 0, 1) := by decide +kernel
theorem dX7_holdsOf_6 : decode cX7_holdsOf 6 = .ok (.getfield 24, 3) := by decide +kernel
theorem dX7_holdsOf_9 : decode cX7_holdsOf 9 = .ok (.if_icmp .ge 36, 3) := by decide +kernel
theorem dX7_holdsOf_12 : decode cX7_holdsOf 12 = .ok (.iload_n 2, 1) := by decide +kernel
theorem dX7_holdsOf_13 : decode cX7_holdsOf 13 = .ok (.iload_n 1, 1) := by decide +kernel
theorem dX7_holdsOf_14 : decode cX7_holdsOf 14 = .ok (.iconst 1, 1) := by decide +kernel
theorem dX7_holdsOf_15 : decode cX7_holdsOf 15 = .ok (.iload_n 3, 1) := by decide +kernel
theorem dX7_holdsOf_16 : decode cX7_holdsOf 16 = .ok (.ishl, 1) := by decide +kernel
theorem dX7_holdsOf_17 : decode cX7_holdsOf 17 = .ok (.iand, 1) := by decide +kernel
theorem dX7_holdsOf_18 : decode cX7_holdsOf 18 = .ok (.ifCond .eq 18, 3) := by decide +kernel
theorem dX7_holdsOf_21 : decode cX7_holdsOf 21 = .ok (.aload_n 0, 1) := by decide +kernel
theorem dX7_holdsOf_22 : decode cX7_holdsOf 22 = .ok (.getfield 11, 3) := by decide +kernel
theorem dX7_holdsOf_25 : decode cX7_holdsOf 25 = .ok (.iload_n 3, 1) := by decide +kernel
theorem dX7_holdsOf_26 : decode cX7_holdsOf 26 = .ok (.aaload, 1) := by decide +kernel
theorem dX7_holdsOf_27 : decode cX7_holdsOf 27 = .ok (.getfield 50, 3) := by decide +kernel
theorem dX7_holdsOf_30 : decode cX7_holdsOf 30 = .ok (.getfield 154, 3) := by decide +kernel
theorem dX7_holdsOf_33 : decode cX7_holdsOf 33 = .ok (.goto 4, 3) := by decide +kernel
theorem dX7_holdsOf_36 : decode cX7_holdsOf 36 = .ok (.iconst 0, 1) := by decide +kernel
theorem dX7_holdsOf_37 : decode cX7_holdsOf 37 = .ok (.iadd, 1) := by decide +kernel
theorem dX7_holdsOf_38 : decode cX7_holdsOf 38 = .ok (.istore_n 2, 1) := by decide +kernel
theorem dX7_holdsOf_39 : decode cX7_holdsOf 39 = .ok (.iinc 3 1, 3) := by decide +kernel
theorem dX7_holdsOf_42 : decode cX7_holdsOf 42 = .ok (.goto (-38), 3) := by decide +kernel
theorem dX7_holdsOf_45 : decode cX7_holdsOf 45 = .ok (.iload_n 2, 1) := by decide +kernel
theorem dX7_holdsOf_46 : decode cX7_holdsOf 46 = .ok (.ireturn, 1) := by decide +kernel
theorem dX7_allTrust_0 : decode cX7_allTrust 0 = .ok (.iconst 0, 1) := by decide +kernel
theorem dX7_allTrust_1 : decode cX7_allTrust 1 = .ok (.istore_n 1, 1) := by decide +kernel
theorem dX7_allTrust_2 : decode cX7_allTrust 2 = .ok (.iconst 0, 1) := by decide +kernel
theorem dX7_allTrust_3 : decode cX7_allTrust 3 = .ok (.istore_n 2, 1) := by decide +kernel
theorem dX7_allTrust_4 : decode cX7_allTrust 4 = .ok (.iload_n 2, 1) := by decide +kernel
theorem dX7_allTrust_5 : decode cX7_allTrust 5 = .ok (.aload_n 0, 1) := by decide +kernel
theorem dX7_allTrust_6 : decode cX7_allTrust 6 = .ok (.getfield 24, 3) := by decide +kernel
theorem dX7_allTrust_9 : decode cX7_allTrust 9 = .ok (.if_icmp .ge 21, 3) := by decide +kernel
theorem dX7_allTrust_12 : decode cX7_allTrust 12 = .ok (.iload_n 1, 1) := by decide +kernel
theorem dX7_allTrust_13 : decode cX7_allTrust 13 = .ok (.aload_n 0, 1) := by decide +kernel
theorem dX7_allTrust_14 : decode cX7_allTrust 14 = .ok (.getfield 11, 3) := by decide +kernel
theorem dX7_allTrust_17 : decode cX7_allTrust 17 = .ok (.iload_n 2, 1) := by decide +kernel
theorem dX7_allTrust_18 : decode cX7_allTrust 18 = .ok (.aaload, 1) := by decide +kernel
theorem dX7_allTrust_19 : decode cX7_allTrust 19 = .ok (.getfield 54, 3) := by decide +kernel
theorem dX7_allTrust_22 : decode cX7_allTrust 22 = .ok (.iadd, 1) := by decide +kernel
theorem dX7_allTrust_23 : decode cX7_allTrust 23 = .ok (.istore_n 1, 1) := by decide +kernel
theorem dX7_allTrust_24 : decode cX7_allTrust 24 = .ok (.iinc 2 1, 3) := by decide +kernel
theorem dX7_allTrust_27 : decode cX7_allTrust 27 = .ok (.goto (-23), 3) := by decide +kernel
theorem dX7_allTrust_30 : decode cX7_allTrust 30 = .ok (.iload_n 1, 1) := by decide +kernel
theorem dX7_allTrust_31 : decode cX7_allTrust 31 = .ok (.ireturn, 1) := by decide +kernel
theorem dX7_allSteps_0 : decode cX7_allSteps 0 = .ok (.iconst 0, 1) := by decide +kernel
theorem dX7_allSteps_1 : decode cX7_allSteps 1 = .ok (.istore_n 1, 1) := by decide +kernel
theorem dX7_allSteps_2 : decode cX7_allSteps 2 = .ok (.iconst 0, 1) := by decide +kernel
theorem dX7_allSteps_3 : decode cX7_allSteps 3 = .ok (.istore_n 2, 1) := by decide +kernel
theorem dX7_allSteps_4 : decode cX7_allSteps 4 = .ok (.iload_n 2, 1) := by decide +kernel
theorem dX7_allSteps_5 : decode cX7_allSteps 5 = .ok (.aload_n 0, 1) := by decide +kernel
theorem dX7_allSteps_6 : decode cX7_allSteps 6 = .ok (.getfield 24, 3) := by decide +kernel
theorem dX7_allSteps_9 : decode cX7_allSteps 9 = .ok (.if_icmp .ge 21, 3) := by decide +kernel
theorem dX7_allSteps_12 : decode cX7_allSteps 12 = .ok (.iload_n 1, 1) := by decide +kernel
theorem dX7_allSteps_13 : decode cX7_allSteps 13 = .ok (.aload_n 0, 1) := by decide +kernel
theorem dX7_allSteps_14 : decode cX7_allSteps 14 = .ok (.getfield 11, 3) := by decide +kernel
theorem dX7_allSteps_17 : decode cX7_allSteps 17 = .ok (.iload_n 2, 1) := by decide +kernel
theorem dX7_allSteps_18 : decode cX7_allSteps 18 = .ok (.aaload, 1) := by decide +kernel
theorem dX7_allSteps_19 : decode cX7_allSteps 19 = .ok (.getfield 57, 3) := by decide +kernel
theorem dX7_allSteps_22 : decode cX7_allSteps 22 = .ok (.iadd, 1) := by decide +kernel
theorem dX7_allSteps_23 : decode cX7_allSteps 23 = .ok (.istore_n 1, 1) := by decide +kernel
theorem dX7_allSteps_24 : decode cX7_allSteps 24 = .ok (.iinc 2 1, 3) := by decide +kernel
theorem dX7_allSteps_27 : decode cX7_allSteps 27 = .ok (.goto (-23), 3) := by decide +kernel
theorem dX7_allSteps_30 : decode cX7_allSteps 30 = .ok (.iload_n 1, 1) := by decide +kernel
theorem dX7_allSteps_31 : decode cX7_allSteps 31 = .ok (.ireturn, 1) := by decide +kernel
theorem dX7_allCold_0 : decode cX7_allCold 0 = .ok (.iconst 0, 1) := by decide +kernel
theorem dX7_allCold_1 : decode cX7_allCold 1 = .ok (.istore_n 1, 1) := by decide +kernel
theorem dX7_allCold_2 : decode cX7_allCold 2 = .ok (.iconst 0, 1) := by decide +kernel
theorem dX7_allCold_3 : decode cX7_allCold 3 = .ok (.istore_n 2, 1) := by decide +kernel
theorem dX7_allCold_4 : decode cX7_allCold 4 = .ok (.iload_n 2, 1) := by decide +kernel
theorem dX7_allCold_5 : decode cX7_allCold 5 = .ok (.aload_n 0, 1) := by decide +kernel
theorem dX7_allCold_6 : decode cX7_allCold 6 = .ok (.getfield 24, 3) := by decide +kernel
theorem dX7_allCold_9 : decode cX7_allCold 9 = .ok (.if_icmp .ge 21, 3) := by decide +kernel
theorem dX7_allCold_12 : decode cX7_allCold 12 = .ok (.iload_n 1, 1) := by decide +kernel
theorem dX7_allCold_13 : decode cX7_allCold 13 = .ok (.aload_n 0, 1) := by decide +kernel
theorem dX7_allCold_14 : decode cX7_allCold 14 = .ok (.getfield 11, 3) := by decide +kernel
theorem dX7_allCold_17 : decode cX7_allCold 17 = .ok (.iload_n 2, 1) := by decide +kernel
theorem dX7_allCold_18 : decode cX7_allCold 18 = .ok (.aaload, 1) := by decide +kernel
theorem dX7_allCold_19 : decode cX7_allCold 19 = .ok (.getfield 60, 3) := by decide +kernel
theorem dX7_allCold_22 : decode cX7_allCold 22 = .ok (.iadd, 1) := by decide +kernel
theorem dX7_allCold_23 : decode cX7_allCold 23 = .ok (.istore_n 1, 1) := by decide +kernel
theorem dX7_allCold_24 : decode cX7_allCold 24 = .ok (.iinc 2 1, 3) := by decide +kernel
theorem dX7_allCold_27 : decode cX7_allCold 27 = .ok (.goto (-23), 3) := by decide +kernel
theorem dX7_allCold_30 : decode cX7_allCold 30 = .ok (.iload_n 1, 1) := by decide +kernel
theorem dX7_allCold_31 : decode cX7_allCold 31 = .ok (.ireturn, 1) := by decide +kernel
theorem dX8_init_0 : decode cX8_init 0 = .ok (.aload_n 0, 1) := by decide +kernel
theorem dX8_init_1 : decode cX8_init 1 = .ok (.invokespecial 3, 3) := by decide +kernel
theorem dX8_init_4 : decode cX8_init 4 = .ok (.aload_n 0, 1) := by decide +kernel
theorem dX8_init_5 : decode cX8_init 5 = .ok (.iload_n 1, 1) := by decide +kernel
theorem dX8_init_6 : decode cX8_init 6 = .ok (.putfield 9, 3) := by decide +kernel
theorem dX8_init_9 : decode cX8_init 9 = .ok (.aload_n 0, 1) := by decide +kernel
theorem dX8_init_10 : decode cX8_init 10 = .ok (.iconst 0, 1) := by decide +kernel
theorem dX8_init_11 : decode cX8_init 11 = .ok (.iload_n 2, 1) := by decide +kernel
theorem dX8_init_12 : decode cX8_init 12 = .ok (.invokestatic 15, 3) := by decide +kernel
theorem dX8_init_15 : decode cX8_init 15 = .ok (.newarray .int, 2) := by decide +kernel
theorem dX8_init_17 : decode cX8_init 17 = .ok (.putfield 21, 3) := by decide +kernel
theorem dX8_init_20 : decode cX8_init 20 = .ok (.return_, 1) := by decide +kernel
theorem dX8_size_0 : decode cX8_size 0 = .ok (.aload_n 0, 1) := by decide +kernel
theorem dX8_size_1 : decode cX8_size 1 = .ok (.getfield 21, 3) := by decide +kernel
theorem dX8_size_4 : decode cX8_size 4 = .ok (.arraylength, 1) := by decide +kernel
theorem dX8_size_5 : decode cX8_size 5 = .ok (.ireturn, 1) := by decide +kernel
theorem dX8_has_0 : decode cX8_has 0 = .ok (.iload_n 1, 1) := by decide +kernel
theorem dX8_has_1 : decode cX8_has 1 = .ok (.iconst 0, 1) := by decide +kernel
theorem dX8_has_2 : decode cX8_has 2 = .ok (.aload_n 0, 1) := by decide +kernel
theorem dX8_has_3 : decode cX8_has 3 = .ok (.getfield 21, 3) := by decide +kernel
theorem dX8_has_6 : decode cX8_has 6 = .ok (.arraylength, 1) := by decide +kernel
theorem dX8_has_7 : decode cX8_has 7 = .ok (.iconst 1, 1) := by decide +kernel
theorem dX8_has_8 : decode cX8_has 8 = .ok (.isub, 1) := by decide +kernel
theorem dX8_has_9 : decode cX8_has 9 = .ok (.invokestatic 25, 3) := by decide +kernel
theorem dX8_has_12 : decode cX8_has 12 = .ok (.ireturn, 1) := by decide +kernel
theorem dX8_hasPart_0 : decode cX8_hasPart 0 = .ok (.iload_n 1, 1) := by decide +kernel
theorem dX8_hasPart_1 : decode cX8_hasPart 1 = .ok (.ifCond .lt 31, 3) := by decide +kernel
theorem dX8_hasPart_4 : decode cX8_hasPart 4 = .ok (.iload_n 2, 1) := by decide +kernel
theorem dX8_hasPart_5 : decode cX8_hasPart 5 = .ok (.ifCond .lt 27, 3) := by decide +kernel
theorem dX8_hasPart_8 : decode cX8_hasPart 8 = .ok (.iload_n 1, 1) := by decide +kernel
theorem dX8_hasPart_9 : decode cX8_hasPart 9 = .ok (.aload_n 0, 1) := by decide +kernel
theorem dX8_hasPart_10 : decode cX8_hasPart 10 = .ok (.getfield 21, 3) := by decide +kernel
theorem dX8_hasPart_13 : decode cX8_hasPart 13 = .ok (.arraylength, 1) := by decide +kernel
theorem dX8_hasPart_14 : decode cX8_hasPart 14 = .ok (.if_icmp .gt 18, 3) := by decide +kernel
theorem dX8_hasPart_17 : decode cX8_hasPart 17 = .ok (.iload_n 2, 1) := by decide +kernel
theorem dX8_hasPart_18 : decode cX8_hasPart 18 = .ok (.aload_n 0, 1) := by decide +kernel
theorem dX8_hasPart_19 : decode cX8_hasPart 19 = .ok (.getfield 21, 3) := by decide +kernel
theorem dX8_hasPart_22 : decode cX8_hasPart 22 = .ok (.arraylength, 1) := by decide +kernel
theorem dX8_hasPart_23 : decode cX8_hasPart 23 = .ok (.iload_n 1, 1) := by decide +kernel
theorem dX8_hasPart_24 : decode cX8_hasPart 24 = .ok (.isub, 1) := by decide +kernel
theorem dX8_hasPart_25 : decode cX8_hasPart 25 = .ok (.if_icmp .gt 7, 3) := by decide +kernel
theorem dX8_hasPart_28 : decode cX8_hasPart 28 = .ok (.iconst 1, 1) := by decide +kernel
theorem dX8_hasPart_29 : decode cX8_hasPart 29 = .ok (.goto 4, 3) := by decide +kernel
theorem dX8_hasPart_32 : decode cX8_hasPart 32 = .ok (.iconst 0, 1) := by decide +kernel
theorem dX8_hasPart_33 : decode cX8_hasPart 33 = .ok (.ireturn, 1) := by decide +kernel
theorem dX8_at_0 : decode cX8_at 0 = .ok (.aload_n 0, 1) := by decide +kernel
theorem dX8_at_1 : decode cX8_at 1 = .ok (.iload_n 1, 1) := by decide +kernel
theorem dX8_at_2 : decode cX8_at 2 = .ok (.invokevirtual 29, 3) := by decide +kernel
theorem dX8_at_5 : decode cX8_at 5 = .ok (.ifCond .eq 12, 3) := by decide +kernel
theorem dX8_at_8 : decode cX8_at 8 = .ok (.aload_n 0, 1) := by decide +kernel
theorem dX8_at_9 : decode cX8_at 9 = .ok (.getfield 21, 3) := by decide +kernel
theorem dX8_at_12 : decode cX8_at 12 = .ok (.iload_n 1, 1) := by decide +kernel
theorem dX8_at_13 : decode cX8_at 13 = .ok (.iaload, 1) := by decide +kernel
theorem dX8_at_14 : decode cX8_at 14 = .ok (.goto 4, 3) := by decide +kernel
theorem dX8_at_17 : decode cX8_at 17 = .ok (.iconst 0, 1) := by decide +kernel
theorem dX8_at_18 : decode cX8_at 18 = .ok (.ireturn, 1) := by decide +kernel
theorem dX8_set_0 : decode cX8_set 0 = .ok (.aload_n 0, 1) := by decide +kernel
theorem dX8_set_1 : decode cX8_set 1 = .ok (.iload_n 1, 1) := by decide +kernel
theorem dX8_set_2 : decode cX8_set 2 = .ok (.invokevirtual 29, 3) := by decide +kernel
theorem dX8_set_5 : decode cX8_set 5 = .ok (.ifCond .eq 35, 3) := by decide +kernel
theorem dX8_set_8 : decode cX8_set 8 = .ok (.aload_n 0, 1) := by decide +kernel
theorem dX8_set_9 : decode cX8_set 9 = .ok (.getfield 21, 3) := by decide +kernel
theorem dX8_set_12 : decode cX8_set 12 = .ok (.iload_n 1, 1) := by decide +kernel
theorem dX8_set_13 : decode cX8_set 13 = .ok (.aload_n 0, 1) := by decide +kernel
theorem dX8_set_14 : decode cX8_set 14 = .ok (.getfield 9, 3) := by decide +kernel
theorem dX8_set_17 : decode cX8_set 17 = .ok (.ifCond .ne 8, 3) := by decide +kernel
theorem dX8_set_20 : decode cX8_set 20 = .ok (.iload_n 2, 1) := by decide +kernel
theorem dX8_set_21 : decode cX8_set 21 = .ok (.i2b, 1) := by decide +kernel
theorem dX8_set_22 : decode cX8_set 22 = .ok (.goto 17, 3) := by decide +kernel
theorem dX8_set_25 : decode cX8_set 25 = .ok (.aload_n 0, 1) := by decide +kernel
theorem dX8_set_26 : decode cX8_set 26 = .ok (.getfield 9, 3) := by decide +kernel
theorem dX8_set_29 : decode cX8_set 29 = .ok (.iconst 1, 1) := by decide +kernel
theorem dX8_set_30 : decode cX8_set 30 = .ok (.if_icmp .ne 8, 3) := by decide +kernel
theorem dX8_set_33 : decode cX8_set 33 = .ok (.iload_n 2, 1) := by decide +kernel
theorem dX8_set_34 : decode cX8_set 34 = .ok (.i2s, 1) := by decide +kernel
theorem dX8_set_35 : decode cX8_set 35 = .ok (.goto 4, 3) := by decide +kernel
theorem dX8_set_38 : decode cX8_set 38 = .ok (.iload_n 2, 1) := by decide +kernel
theorem dX8_set_39 : decode cX8_set 39 = .ok (.iastore, 1) := by decide +kernel
theorem dX8_set_40 : decode cX8_set 40 = .ok (.return_, 1) := by decide +kernel
theorem dX8_least_0 : decode cX8_least 0 = .ok (.aload_n 0, 1) := by decide +kernel
theorem dX8_least_1 : decode cX8_least 1 = .ok (.getfield 9, 3) := by decide +kernel
theorem dX8_least_4 : decode cX8_least 4 = .ok (.ifCond .ne 8, 3) := by decide +kernel
theorem dX8_least_7 : decode cX8_least 7 = .ok (.bipush (-128), 2) := by decide +kernel
theorem dX8_least_9 : decode cX8_least 9 = .ok (.goto 19, 3) := by decide +kernel
theorem dX8_least_12 : decode cX8_least 12 = .ok (.aload_n 0, 1) := by decide +kernel
theorem dX8_least_13 : decode cX8_least 13 = .ok (.getfield 9, 3) := by decide +kernel
theorem dX8_least_16 : decode cX8_least 16 = .ok (.iconst 1, 1) := by decide +kernel
theorem dX8_least_17 : decode cX8_least 17 = .ok (.if_icmp .ne 9, 3) := by decide +kernel
theorem dX8_least_20 : decode cX8_least 20 = .ok (.sipush (-32768), 3) := by decide +kernel
theorem dX8_least_23 : decode cX8_least 23 = .ok (.goto 5, 3) := by decide +kernel
theorem dX8_least_26 : decode cX8_least 26 = .ok (.ldc 33, 2) := by decide +kernel
theorem dX8_least_28 : decode cX8_least 28 = .ok (.ireturn, 1) := by decide +kernel
theorem dX8_digitsBehind_0 : decode cX8_digitsBehind 0 = .ok (.iload_n 0, 1) := by decide +kernel
theorem dX8_digitsBehind_1 : decode cX8_digitsBehind 1 = .ok (.lookupswitch 67 #[(98, 65), (99, 59), (109, 63), (115, 63), (116, 61), (120, 63)], 59) := by decide +kernel
theorem dX8_digitsBehind_60 : decode cX8_digitsBehind 60 = .ok (.iconst 4, 1) := by decide +kernel
theorem dX8_digitsBehind_61 : decode cX8_digitsBehind 61 = .ok (.ireturn, 1) := by decide +kernel
theorem dX8_digitsBehind_62 : decode cX8_digitsBehind 62 = .ok (.iconst 3, 1) := by decide +kernel
theorem dX8_digitsBehind_63 : decode cX8_digitsBehind 63 = .ok (.ireturn, 1) := by decide +kernel
theorem dX8_digitsBehind_64 : decode cX8_digitsBehind 64 = .ok (.iconst 2, 1) := by decide +kernel
theorem dX8_digitsBehind_65 : decode cX8_digitsBehind 65 = .ok (.ireturn, 1) := by decide +kernel
theorem dX8_digitsBehind_66 : decode cX8_digitsBehind 66 = .ok (.iconst 1, 1) := by decide +kernel
theorem dX8_digitsBehind_67 : decode cX8_digitsBehind 67 = .ok (.ireturn, 1) := by decide +kernel
theorem dX8_digitsBehind_68 : decode cX8_digitsBehind 68 = .ok (.iconst (-1), 1) := by decide +kernel
theorem dX8_digitsBehind_69 : decode cX8_digitsBehind 69 = .ok (.ireturn, 1) := by decide +kernel
theorem dX8_misshapenAt_0 : decode cX8_misshapenAt 0 = .ok (.iconst (-1), 1) := by decide +kernel
theorem dX8_misshapenAt_1 : decode cX8_misshapenAt 1 = .ok (.istore_n 1, 1) := by decide +kernel
theorem dX8_misshapenAt_2 : decode cX8_misshapenAt 2 = .ok (.iconst 0, 1) := by decide +kernel
theorem dX8_misshapenAt_3 : decode cX8_misshapenAt 3 = .ok (.istore_n 2, 1) := by decide +kernel
theorem dX8_misshapenAt_4 : decode cX8_misshapenAt 4 = .ok (.iload_n 2, 1) := by decide +kernel
theorem dX8_misshapenAt_5 : decode cX8_misshapenAt 5 = .ok (.aload_n 0, 1) := by decide +kernel
theorem dX8_misshapenAt_6 : decode cX8_misshapenAt 6 = .ok (.getfield 21, 3) := by decide +kernel
theorem dX8_misshapenAt_9 : decode cX8_misshapenAt 9 = .ok (.arraylength, 1) := by decide +kernel
theorem dX8_misshapenAt_10 : decode cX8_misshapenAt 10 = .ok (.if_icmp .ge 66, 3) := by decide +kernel
theorem dX8_misshapenAt_13 : decode cX8_misshapenAt 13 = .ok (.aload_n 0, 1) := by decide +kernel
theorem dX8_misshapenAt_14 : decode cX8_misshapenAt 14 = .ok (.getfield 21, 3) := by decide +kernel
theorem dX8_misshapenAt_17 : decode cX8_misshapenAt 17 = .ok (.iload_n 2, 1) := by decide +kernel
theorem dX8_misshapenAt_18 : decode cX8_misshapenAt 18 = .ok (.iaload, 1) := by decide +kernel
theorem dX8_misshapenAt_19 : decode cX8_misshapenAt 19 = .ok (.istore_n 3, 1) := by decide +kernel
theorem dX8_misshapenAt_20 : decode cX8_misshapenAt 20 = .ok (.iload_n 1, 1) := by decide +kernel
theorem dX8_misshapenAt_21 : decode cX8_misshapenAt 21 = .ok (.iconst (-1), 1) := by decide +kernel
theorem dX8_misshapenAt_22 : decode cX8_misshapenAt 22 = .ok (.if_icmp .ne 15, 3) := by decide +kernel
theorem dX8_misshapenAt_25 : decode cX8_misshapenAt 25 = .ok (.iload_n 3, 1) := by decide +kernel
theorem dX8_misshapenAt_26 : decode cX8_misshapenAt 26 = .ok (.invokestatic 34, 3) := by decide +kernel
theorem dX8_misshapenAt_29 : decode cX8_misshapenAt 29 = .ok (.istore_n 1, 1) := by decide +kernel
theorem dX8_misshapenAt_30 : decode cX8_misshapenAt 30 = .ok (.iload_n 1, 1) := by decide +kernel
theorem dX8_misshapenAt_31 : decode cX8_misshapenAt 31 = .ok (.iconst (-1), 1) := by decide +kernel
theorem dX8_misshapenAt_32 : decode cX8_misshapenAt 32 = .ok (.if_icmp .ne 38, 3) := by decide +kernel
theorem dX8_misshapenAt_35 : decode cX8_misshapenAt 35 = .ok (.iload_n 2, 1) := by decide +kernel
theorem dX8_misshapenAt_36 : decode cX8_misshapenAt 36 = .ok (.ireturn, 1) := by decide +kernel
theorem dX8_misshapenAt_37 : decode cX8_misshapenAt 37 = .ok (.iload_n 1, 1) := by decide +kernel
theorem dX8_misshapenAt_38 : decode cX8_misshapenAt 38 = .ok (.ifCond .le 22, 3) := by decide +kernel
theorem dX8_misshapenAt_41 : decode cX8_misshapenAt 41 = .ok (.iload_n 3, 1) := by decide +kernel
theorem dX8_misshapenAt_42 : decode cX8_misshapenAt 42 = .ok (.bipush 48, 2) := by decide +kernel
theorem dX8_misshapenAt_44 : decode cX8_misshapenAt 44 = .ok (.bipush 57, 2) := by decide +kernel
theorem dX8_misshapenAt_46 : decode cX8_misshapenAt 46 = .ok (.invokestatic 25, 3) := by decide +kernel
theorem dX8_misshapenAt_49 : decode cX8_misshapenAt 49 = .ok (.ifCond .ne 5, 3) := by decide +kernel
theorem dX8_misshapenAt_52 : decode cX8_misshapenAt 52 = .ok (.iload_n 2, 1) := by decide +kernel
theorem dX8_misshapenAt_53 : decode cX8_misshapenAt 53 = .ok (.ireturn, 1) := by decide +kernel
theorem dX8_misshapenAt_54 : decode cX8_misshapenAt 54 = .ok (.iinc 1 (-1), 3) := by decide +kernel
theorem dX8_misshapenAt_57 : decode cX8_misshapenAt 57 = .ok (.goto 13, 3) := by decide +kernel
theorem dX8_misshapenAt_60 : decode cX8_misshapenAt 60 = .ok (.iload_n 3, 1) := by decide +kernel
theorem dX8_misshapenAt_61 : decode cX8_misshapenAt 61 = .ok (.bipush 59, 2) := by decide +kernel
theorem dX8_misshapenAt_63 : decode cX8_misshapenAt 63 = .ok (.if_icmp .eq 5, 3) := by decide +kernel
theorem dX8_misshapenAt_66 : decode cX8_misshapenAt 66 = .ok (.iload_n 2, 1) := by decide +kernel
theorem dX8_misshapenAt_67 : decode cX8_misshapenAt 67 = .ok (.ireturn, 1) := by decide +kernel
theorem dX8_misshapenAt_68 : decode cX8_misshapenAt 68 = .ok (.iconst (-1), 1) := by decide +kernel
theorem dX8_misshapenAt_69 : decode cX8_misshapenAt 69 = .ok (.istore_n 1, 1) := by decide +kernel
theorem dX8_misshapenAt_70 : decode cX8_misshapenAt 70 = .ok (.iinc 2 1, 3) := by decide +kernel
theorem dX8_misshapenAt_73 : decode cX8_misshapenAt 73 = .ok (.goto (-69), 3) := by decide +kernel
theorem dX8_misshapenAt_76 : decode cX8_misshapenAt 76 = .ok (.iload_n 1, 1) := by decide +kernel
theorem dX8_misshapenAt_77 : decode cX8_misshapenAt 77 = .ok (.iconst (-1), 1) := by decide +kernel
theorem dX8_misshapenAt_78 : decode cX8_misshapenAt 78 = .ok (.if_icmp .ne 15, 3) := by decide +kernel
theorem dX8_misshapenAt_81 : decode cX8_misshapenAt 81 = .ok (.aload_n 0, 1) := by decide +kernel
theorem dX8_misshapenAt_82 : decode cX8_misshapenAt 82 = .ok (.getfield 21, 3) := by decide +kernel
theorem dX8_misshapenAt_85 : decode cX8_misshapenAt 85 = .ok (.arraylength, 1) := by decide +kernel
theorem dX8_misshapenAt_86 : decode cX8_misshapenAt 86 = .ok (.ifCond .le 7, 3) := by decide +kernel
theorem dX8_misshapenAt_89 : decode cX8_misshapenAt 89 = .ok (.iconst (-1), 1) := by decide +kernel
theorem dX8_misshapenAt_90 : decode cX8_misshapenAt 90 = .ok (.goto 8, 3) := by decide +kernel
theorem dX8_misshapenAt_93 : decode cX8_misshapenAt 93 = .ok (.aload_n 0, 1) := by decide +kernel
theorem dX8_misshapenAt_94 : decode cX8_misshapenAt 94 = .ok (.getfield 21, 3) := by decide +kernel
theorem dX8_misshapenAt_97 : decode cX8_misshapenAt 97 = .ok (.arraylength, 1) := by decide +kernel
theorem dX8_misshapenAt_98 : decode cX8_misshapenAt 98 = .ok (.ireturn, 1) := by decide +kernel
theorem dX8_number_0 : decode cX8_number 0 = .ok (.iconst 0, 1) := by decide +kernel
theorem dX8_number_1 : decode cX8_number 1 = .ok (.istore_n 3, 1) := by decide +kernel
theorem dX8_number_2 : decode cX8_number 2 = .ok (.iconst 0, 1) := by decide +kernel
theorem dX8_number_3 : decode cX8_number 3 = .ok (.istore 4, 2) := by decide +kernel
theorem dX8_number_5 : decode cX8_number 5 = .ok (.iload 4, 2) := by decide +kernel
theorem dX8_number_7 : decode cX8_number 7 = .ok (.iload_n 2, 1) := by decide +kernel
theorem dX8_number_8 : decode cX8_number 8 = .ok (.if_icmp .ge 26, 3) := by decide +kernel
theorem dX8_number_11 : decode cX8_number 11 = .ok (.iload_n 3, 1) := by decide +kernel
theorem dX8_number_12 : decode cX8_number 12 = .ok (.bipush 10, 2) := by decide +kernel
theorem dX8_number_14 : decode cX8_number 14 = .ok (.imul, 1) := by decide +kernel
theorem dX8_number_15 : decode cX8_number 15 = .ok (.aload_n 0, 1) := by decide +kernel
theorem dX8_number_16 : decode cX8_number 16 = .ok (.iload_n 1, 1) := by decide +kernel
theorem dX8_number_17 : decode cX8_number 17 = .ok (.iload 4, 2) := by decide +kernel
theorem dX8_number_19 : decode cX8_number 19 = .ok (.iadd, 1) := by decide +kernel
theorem dX8_number_20 : decode cX8_number 20 = .ok (.invokevirtual 38, 3) := by decide +kernel
theorem dX8_number_23 : decode cX8_number 23 = .ok (.iadd, 1) := by decide +kernel
theorem dX8_number_24 : decode cX8_number 24 = .ok (.bipush 48, 2) := by decide +kernel
theorem dX8_number_26 : decode cX8_number 26 = .ok (.isub, 1) := by decide +kernel
theorem dX8_number_27 : decode cX8_number 27 = .ok (.istore_n 3, 1) := by decide +kernel
theorem dX8_number_28 : decode cX8_number 28 = .ok (.iinc 4 1, 3) := by decide +kernel
theorem dX8_number_31 : decode cX8_number 31 = .ok (.goto (-26), 3) := by decide +kernel
theorem dX8_number_34 : decode cX8_number 34 = .ok (.iload_n 3, 1) := by decide +kernel
theorem dX8_number_35 : decode cX8_number 35 = .ok (.ireturn, 1) := by decide +kernel
theorem dX9_init_0 : decode cX9_init 0 = .ok (.aload_n 0, 1) := by decide +kernel
theorem dX9_init_1 : decode cX9_init 1 = .ok (.iload_n 1, 1) := by decide +kernel
theorem dX9_init_2 : decode cX9_init 2 = .ok (.invokespecial 3, 3) := by decide +kernel
theorem dX9_init_5 : decode cX9_init 5 = .ok (.aload_n 0, 1) := by decide +kernel
theorem dX9_init_6 : decode cX9_init 6 = .ok (.iconst 2, 1) := by decide +kernel
theorem dX9_init_7 : decode cX9_init 7 = .ok (.putfield 9, 3) := by decide +kernel
theorem dX9_init_10 : decode cX9_init 10 = .ok (.aload_n 0, 1) := by decide +kernel
theorem dX9_init_11 : decode cX9_init 11 = .ok (.dup, 1) := by decide +kernel
theorem dX9_init_12 : decode cX9_init 12 = .ok (.getfield 15, 3) := by decide +kernel
theorem dX9_init_15 : decode cX9_init 15 = .ok (.iconst 1, 1) := by decide +kernel
theorem dX9_init_16 : decode cX9_init 16 = .ok (.iadd, 1) := by decide +kernel
theorem dX9_init_17 : decode cX9_init 17 = .ok (.putfield 15, 3) := by decide +kernel
theorem dX9_init_20 : decode cX9_init 20 = .ok (.aload_n 0, 1) := by decide +kernel
theorem dX9_init_21 : decode cX9_init 21 = .ok (.dup, 1) := by decide +kernel
theorem dX9_init_22 : decode cX9_init 22 = .ok (.getfield 18, 3) := by decide +kernel
theorem dX9_init_25 : decode cX9_init 25 = .ok (.iload_n 1, 1) := by decide +kernel
theorem dX9_init_26 : decode cX9_init 26 = .ok (.iconst 2, 1) := by decide +kernel
theorem dX9_init_27 : decode cX9_init 27 = .ok (.idiv, 1) := by decide +kernel
theorem dX9_init_28 : decode cX9_init 28 = .ok (.iadd, 1) := by decide +kernel
theorem dX9_init_29 : decode cX9_init 29 = .ok (.putfield 18, 3) := by decide +kernel
theorem dX9_init_32 : decode cX9_init 32 = .ok (.aload_n 0, 1) := by decide +kernel
theorem dX9_init_33 : decode cX9_init 33 = .ok (.dup, 1) := by decide +kernel
theorem dX9_init_34 : decode cX9_init 34 = .ok (.getfield 21, 3) := by decide +kernel
theorem dX9_init_37 : decode cX9_init 37 = .ok (.iconst 1, 1) := by decide +kernel
theorem dX9_init_38 : decode cX9_init 38 = .ok (.isub, 1) := by decide +kernel
theorem dX9_init_39 : decode cX9_init 39 = .ok (.putfield 21, 3) := by decide +kernel
theorem dX9_init_42 : decode cX9_init 42 = .ok (.aload_n 0, 1) := by decide +kernel
theorem dX9_init_43 : decode cX9_init 43 = .ok (.iconst 0, 1) := by decide +kernel
theorem dX9_init_44 : decode cX9_init 44 = .ok (.putfield 24, 3) := by decide +kernel
theorem dX9_init_47 : decode cX9_init 47 = .ok (.aload_n 0, 1) := by decide +kernel
theorem dX9_init_48 : decode cX9_init 48 = .ok (.dup, 1) := by decide +kernel
theorem dX9_init_49 : decode cX9_init 49 = .ok (.getfield 27, 3) := by decide +kernel
theorem dX9_init_52 : decode cX9_init 52 = .ok (.iconst 2, 1) := by decide +kernel
theorem dX9_init_53 : decode cX9_init 53 = .ok (.isub, 1) := by decide +kernel
theorem dX9_init_54 : decode cX9_init 54 = .ok (.putfield 27, 3) := by decide +kernel
theorem dX9_init_57 : decode cX9_init 57 = .ok (.iconst 0, 1) := by decide +kernel
theorem dX9_init_58 : decode cX9_init 58 = .ok (.istore_n 2, 1) := by decide +kernel
theorem dX9_init_59 : decode cX9_init 59 = .ok (.iload_n 2, 1) := by decide +kernel
theorem dX9_init_60 : decode cX9_init 60 = .ok (.bipush 7, 2) := by decide +kernel
theorem dX9_init_62 : decode cX9_init 62 = .ok (.if_icmp .ge 19, 3) := by decide +kernel
theorem dX9_init_65 : decode cX9_init 65 = .ok (.aload_n 0, 1) := by decide +kernel
theorem dX9_init_66 : decode cX9_init 66 = .ok (.getfield 30, 3) := by decide +kernel
theorem dX9_init_69 : decode cX9_init 69 = .ok (.iload_n 2, 1) := by decide +kernel
theorem dX9_init_70 : decode cX9_init 70 = .ok (.dup2, 1) := by decide +kernel
theorem dX9_init_71 : decode cX9_init 71 = .ok (.iaload, 1) := by decide +kernel
theorem dX9_init_72 : decode cX9_init 72 = .ok (.iconst 2, 1) := by decide +kernel
theorem dX9_init_73 : decode cX9_init 73 = .ok (.imul, 1) := by decide +kernel
theorem dX9_init_74 : decode cX9_init 74 = .ok (.iastore, 1) := by decide +kernel
theorem dX9_init_75 : decode cX9_init 75 = .ok (.iinc 2 1, 3) := by decide +kernel
theorem dX9_init_78 : decode cX9_init 78 = .ok (.goto (-19), 3) := by decide +kernel
theorem dX9_init_81 : decode cX9_init 81 = .ok (.return_, 1) := by decide +kernel
theorem dX9_fail_0 : decode cX9_fail 0 = .ok (.return_, 1) := by decide +kernel
theorem dX10_init_0 : decode cX10_init 0 = .ok (.aload_n 0, 1) := by decide +kernel
theorem dX10_init_1 : decode cX10_init 1 = .ok (.iload_n 1, 1) := by decide +kernel
theorem dX10_init_2 : decode cX10_init 2 = .ok (.invokespecial 3, 3) := by decide +kernel
theorem dX10_init_5 : decode cX10_init 5 = .ok (.aload_n 0, 1) := by decide +kernel
theorem dX10_init_6 : decode cX10_init 6 = .ok (.iconst 3, 1) := by decide +kernel
theorem dX10_init_7 : decode cX10_init 7 = .ok (.putfield 9, 3) := by decide +kernel
theorem dX10_init_10 : decode cX10_init 10 = .ok (.aload_n 0, 1) := by decide +kernel
theorem dX10_init_11 : decode cX10_init 11 = .ok (.iconst 3, 1) := by decide +kernel
theorem dX10_init_12 : decode cX10_init 12 = .ok (.putfield 15, 3) := by decide +kernel
theorem dX10_init_15 : decode cX10_init 15 = .ok (.aload_n 0, 1) := by decide +kernel
theorem dX10_init_16 : decode cX10_init 16 = .ok (.dup, 1) := by decide +kernel
theorem dX10_init_17 : decode cX10_init 17 = .ok (.getfield 18, 3) := by decide +kernel
theorem dX10_init_20 : decode cX10_init 20 = .ok (.iconst 2, 1) := by decide +kernel
theorem dX10_init_21 : decode cX10_init 21 = .ok (.imul, 1) := by decide +kernel
theorem dX10_init_22 : decode cX10_init 22 = .ok (.putfield 18, 3) := by decide +kernel
theorem dX10_init_25 : decode cX10_init 25 = .ok (.iconst 0, 1) := by decide +kernel
theorem dX10_init_26 : decode cX10_init 26 = .ok (.istore_n 2, 1) := by decide +kernel
theorem dX10_init_27 : decode cX10_init 27 = .ok (.iload_n 2, 1) := by decide +kernel
theorem dX10_init_28 : decode cX10_init 28 = .ok (.bipush 7, 2) := by decide +kernel
theorem dX10_init_30 : decode cX10_init 30 = .ok (.if_icmp .ge 21, 3) := by decide +kernel
theorem dX10_init_33 : decode cX10_init 33 = .ok (.aload_n 0, 1) := by decide +kernel
theorem dX10_init_34 : decode cX10_init 34 = .ok (.getfield 21, 3) := by decide +kernel
theorem dX10_init_37 : decode cX10_init 37 = .ok (.iload_n 2, 1) := by decide +kernel
theorem dX10_init_38 : decode cX10_init 38 = .ok (.dup2, 1) := by decide +kernel
theorem dX10_init_39 : decode cX10_init 39 = .ok (.iaload, 1) := by decide +kernel
theorem dX10_init_40 : decode cX10_init 40 = .ok (.iload_n 1, 1) := by decide +kernel
theorem dX10_init_41 : decode cX10_init 41 = .ok (.iconst 4, 1) := by decide +kernel
theorem dX10_init_42 : decode cX10_init 42 = .ok (.idiv, 1) := by decide +kernel
theorem dX10_init_43 : decode cX10_init 43 = .ok (.iadd, 1) := by decide +kernel
theorem dX10_init_44 : decode cX10_init 44 = .ok (.iastore, 1) := by decide +kernel
theorem dX10_init_45 : decode cX10_init 45 = .ok (.iinc 2 1, 3) := by decide +kernel
theorem dX10_init_48 : decode cX10_init 48 = .ok (.goto (-21), 3) := by decide +kernel
theorem dX10_init_51 : decode cX10_init 51 = .ok (.return_, 1) := by decide +kernel
theorem dX10_fail_0 : decode cX10_fail 0 = .ok (.return_, 1) := by decide +kernel
theorem dX11_init_0 : decode cX11_init 0 = .ok (.aload_n 0, 1) := by decide +kernel
theorem dX11_init_1 : decode cX11_init 1 = .ok (.invokespecial 3, 3) := by decide +kernel
theorem dX11_init_4 : decode cX11_init 4 = .ok (.aload_n 0, 1) := by decide +kernel
theorem dX11_init_5 : decode cX11_init 5 = .ok (.iconst 3, 1) := by decide +kernel
end
section
theorem dX11_init_6 : decode cX11_init 6 = .ok (.anewarray 9, 3) := by decide +kernel
theorem dX11_init_9 : decode cX11_init 9 = .ok (.putfield 11, 3) := by decide +kernel
theorem dX11_init_12 : decode cX11_init 12 = .ok (.aload_n 0, 1) := by decide +kernel
theorem dX11_init_13 : decode cX11_init 13 = .ok (.sipush 168, 3) := by decide +kernel
theorem dX11_init_16 : decode cX11_init 16 = .ok (.newarray .int, 2) := by decide +kernel
theorem dX11_init_18 : decode cX11_init 18 = .ok (.putfield 15, 3) := by decide +kernel
theorem dX11_init_21 : decode cX11_init 21 = .ok (.aload_n 0, 1) := by decide +kernel
theorem dX11_init_22 : decode cX11_init 22 = .ok (.sipush 168, 3) := by decide +kernel
theorem dX11_init_25 : decode cX11_init 25 = .ok (.newarray .int, 2) := by decide +kernel
theorem dX11_init_27 : decode cX11_init 27 = .ok (.putfield 19, 3) := by decide +kernel
theorem dX11_init_30 : decode cX11_init 30 = .ok (.aload_n 0, 1) := by decide +kernel
theorem dX11_init_31 : decode cX11_init 31 = .ok (.bipush 6, 2) := by decide +kernel
theorem dX11_init_33 : decode cX11_init 33 = .ok (.newarray .int, 2) := by decide +kernel
theorem dX11_init_35 : decode cX11_init 35 = .ok (.putfield 22, 3) := by decide +kernel
theorem dX11_init_38 : decode cX11_init 38 = .ok (.aload_n 0, 1) := by decide +kernel
theorem dX11_init_39 : decode cX11_init 39 = .ok (.bipush 6, 2) := by decide +kernel
theorem dX11_init_41 : decode cX11_init 41 = .ok (.newarray .int, 2) := by decide +kernel
theorem dX11_init_43 : decode cX11_init 43 = .ok (.putfield 25, 3) := by decide +kernel
theorem dX11_init_46 : decode cX11_init 46 = .ok (.aload_n 0, 1) := by decide +kernel
theorem dX11_init_47 : decode cX11_init 47 = .ok (.bipush 8, 2) := by decide +kernel
theorem dX11_init_49 : decode cX11_init 49 = .ok (.anewarray 28, 3) := by decide +kernel
theorem dX11_init_52 : decode cX11_init 52 = .ok (.putfield 30, 3) := by decide +kernel
theorem dX11_init_55 : decode cX11_init 55 = .ok (.aload_n 0, 1) := by decide +kernel
theorem dX11_init_56 : decode cX11_init 56 = .ok (.bipush 8, 2) := by decide +kernel
theorem dX11_init_58 : decode cX11_init 58 = .ok (.anewarray 34, 3) := by decide +kernel
theorem dX11_init_61 : decode cX11_init 61 = .ok (.putfield 36, 3) := by decide +kernel
theorem dX11_init_64 : decode cX11_init 64 = .ok (.new 28, 3) := by decide +kernel
theorem dX11_init_67 : decode cX11_init 67 = .ok (.dup, 1) := by decide +kernel
theorem dX11_init_68 : decode cX11_init 68 = .ok (.iconst 0, 1) := by decide +kernel
theorem dX11_init_69 : decode cX11_init 69 = .ok (.invokespecial 40, 3) := by decide +kernel
theorem dX11_init_72 : decode cX11_init 72 = .ok (.astore_n 1, 1) := by decide +kernel
theorem dX11_init_73 : decode cX11_init 73 = .ok (.aload_n 0, 1) := by decide +kernel
theorem dX11_init_74 : decode cX11_init 74 = .ok (.new 9, 3) := by decide +kernel
theorem dX11_init_77 : decode cX11_init 77 = .ok (.dup, 1) := by decide +kernel
theorem dX11_init_78 : decode cX11_init 78 = .ok (.aload_n 1, 1) := by decide +kernel
theorem dX11_init_79 : decode cX11_init 79 = .ok (.invokespecial 43, 3) := by decide +kernel
theorem dX11_init_82 : decode cX11_init 82 = .ok (.putfield 46, 3) := by decide +kernel
theorem dX11_init_85 : decode cX11_init 85 = .ok (.aload_n 0, 1) := by decide +kernel
theorem dX11_init_86 : decode cX11_init 86 = .ok (.new 9, 3) := by decide +kernel
theorem dX11_init_89 : decode cX11_init 89 = .ok (.dup, 1) := by decide +kernel
theorem dX11_init_90 : decode cX11_init 90 = .ok (.aload_n 1, 1) := by decide +kernel
theorem dX11_init_91 : decode cX11_init 91 = .ok (.invokespecial 43, 3) := by decide +kernel
theorem dX11_init_94 : decode cX11_init 94 = .ok (.putfield 50, 3) := by decide +kernel
theorem dX11_init_97 : decode cX11_init 97 = .ok (.iconst 0, 1) := by decide +kernel
theorem dX11_init_98 : decode cX11_init 98 = .ok (.istore_n 2, 1) := by decide +kernel
theorem dX11_init_99 : decode cX11_init 99 = .ok (.iload_n 2, 1) := by decide +kernel
theorem dX11_init_100 : decode cX11_init 100 = .ok (.aload_n 0, 1) := by decide +kernel
theorem dX11_init_101 : decode cX11_init 101 = .ok (.getfield 11, 3) := by decide +kernel
theorem dX11_init_104 : decode cX11_init 104 = .ok (.arraylength, 1) := by decide +kernel
theorem dX11_init_105 : decode cX11_init 105 = .ok (.if_icmp .ge 23, 3) := by decide +kernel
theorem dX11_init_108 : decode cX11_init 108 = .ok (.aload_n 0, 1) := by decide +kernel
theorem dX11_init_109 : decode cX11_init 109 = .ok (.getfield 11, 3) := by decide +kernel
theorem dX11_init_112 : decode cX11_init 112 = .ok (.iload_n 2, 1) := by decide +kernel
theorem dX11_init_113 : decode cX11_init 113 = .ok (.new 9, 3) := by decide +kernel
theorem dX11_init_116 : decode cX11_init 116 = .ok (.dup, 1) := by decide +kernel
theorem dX11_init_117 : decode cX11_init 117 = .ok (.aload_n 1, 1) := by decide +kernel
theorem dX11_init_118 : decode cX11_init 118 = .ok (.invokespecial 43, 3) := by decide +kernel
theorem dX11_init_121 : decode cX11_init 121 = .ok (.aastore, 1) := by decide +kernel
theorem dX11_init_122 : decode cX11_init 122 = .ok (.iinc 2 1, 3) := by decide +kernel
theorem dX11_init_125 : decode cX11_init 125 = .ok (.goto (-26), 3) := by decide +kernel
theorem dX11_init_128 : decode cX11_init 128 = .ok (.aload_n 0, 1) := by decide +kernel
theorem dX11_init_129 : decode cX11_init 129 = .ok (.new 53, 3) := by decide +kernel
theorem dX11_init_132 : decode cX11_init 132 = .ok (.dup, 1) := by decide +kernel
theorem dX11_init_133 : decode cX11_init 133 = .ok (.aload_n 1, 1) := by decide +kernel
theorem dX11_init_134 : decode cX11_init 134 = .ok (.invokespecial 55, 3) := by decide +kernel
theorem dX11_init_137 : decode cX11_init 137 = .ok (.putfield 56, 3) := by decide +kernel
theorem dX11_init_140 : decode cX11_init 140 = .ok (.aload_n 0, 1) := by decide +kernel
theorem dX11_init_141 : decode cX11_init 141 = .ok (.new 53, 3) := by decide +kernel
theorem dX11_init_144 : decode cX11_init 144 = .ok (.dup, 1) := by decide +kernel
theorem dX11_init_145 : decode cX11_init 145 = .ok (.aload_n 1, 1) := by decide +kernel
theorem dX11_init_146 : decode cX11_init 146 = .ok (.invokespecial 55, 3) := by decide +kernel
theorem dX11_init_149 : decode cX11_init 149 = .ok (.putfield 60, 3) := by decide +kernel
theorem dX11_init_152 : decode cX11_init 152 = .ok (.return_, 1) := by decide +kernel
theorem dX11_bath_0 : decode cX11_bath 0 = .ok (.aload_n 0, 1) := by decide +kernel
theorem dX11_bath_1 : decode cX11_bath 1 = .ok (.iload_n 1, 1) := by decide +kernel
theorem dX11_bath_2 : decode cX11_bath 2 = .ok (.invokevirtual 63, 3) := by decide +kernel
theorem dX11_bath_5 : decode cX11_bath 5 = .ok (.astore_n 2, 1) := by decide +kernel
theorem dX11_bath_6 : decode cX11_bath 6 = .ok (.aload_n 2, 1) := by decide +kernel
theorem dX11_bath_7 : decode cX11_bath 7 = .ok (.ifnonnull 9, 3) := by decide +kernel
theorem dX11_bath_10 : decode cX11_bath 10 = .ok (.aload_n 0, 1) := by decide +kernel
theorem dX11_bath_11 : decode cX11_bath 11 = .ok (.iload_n 1, 1) := by decide +kernel
theorem dX11_bath_12 : decode cX11_bath 12 = .ok (.invokevirtual 67, 3) := by decide +kernel
theorem dX11_bath_15 : decode cX11_bath 15 = .ok (.ireturn, 1) := by decide +kernel
theorem dX11_bath_16 : decode cX11_bath 16 = .ok (.aload_n 2, 1) := by decide +kernel
theorem dX11_bath_17 : decode cX11_bath 17 = .ok (.getfield 71, 3) := by decide +kernel
theorem dX11_bath_20 : decode cX11_bath 20 = .ok (.ifCond .eq 6, 3) := by decide +kernel
theorem dX11_bath_23 : decode cX11_bath 23 = .ok (.bipush (-12), 2) := by decide +kernel
theorem dX11_bath_25 : decode cX11_bath 25 = .ok (.ireturn, 1) := by decide +kernel
theorem dX11_bath_26 : decode cX11_bath 26 = .ok (.aload_n 2, 1) := by decide +kernel
theorem dX11_bath_27 : decode cX11_bath 27 = .ok (.invokevirtual 75, 3) := by decide +kernel
theorem dX11_bath_30 : decode cX11_bath 30 = .ok (.istore_n 3, 1) := by decide +kernel
theorem dX11_bath_31 : decode cX11_bath 31 = .ok (.iload_n 3, 1) := by decide +kernel
theorem dX11_bath_32 : decode cX11_bath 32 = .ok (.iconst (-1), 1) := by decide +kernel
theorem dX11_bath_33 : decode cX11_bath 33 = .ok (.if_icmp .eq 9, 3) := by decide +kernel
theorem dX11_bath_36 : decode cX11_bath 36 = .ok (.sipush (-1000), 3) := by decide +kernel
theorem dX11_bath_39 : decode cX11_bath 39 = .ok (.iload_n 3, 1) := by decide +kernel
theorem dX11_bath_40 : decode cX11_bath 40 = .ok (.isub, 1) := by decide +kernel
theorem dX11_bath_41 : decode cX11_bath 41 = .ok (.ireturn, 1) := by decide +kernel
theorem dX11_bath_42 : decode cX11_bath 42 = .ok (.aload_n 0, 1) := by decide +kernel
theorem dX11_bath_43 : decode cX11_bath 43 = .ok (.invokevirtual 79, 3) := by decide +kernel
theorem dX11_bath_46 : decode cX11_bath 46 = .ok (.astore 4, 2) := by decide +kernel
theorem dX11_bath_48 : decode cX11_bath 48 = .ok (.iconst 0, 1) := by decide +kernel
theorem dX11_bath_49 : decode cX11_bath 49 = .ok (.istore 5, 2) := by decide +kernel
theorem dX11_bath_51 : decode cX11_bath 51 = .ok (.iconst 0, 1) := by decide +kernel
theorem dX11_bath_52 : decode cX11_bath 52 = .ok (.istore 6, 2) := by decide +kernel
theorem dX11_bath_54 : decode cX11_bath 54 = .ok (.iload 6, 2) := by decide +kernel
theorem dX11_bath_56 : decode cX11_bath 56 = .ok (.aload_n 2, 1) := by decide +kernel
theorem dX11_bath_57 : decode cX11_bath 57 = .ok (.invokevirtual 83, 3) := by decide +kernel
theorem dX11_bath_60 : decode cX11_bath 60 = .ok (.if_icmp .ge 43, 3) := by decide +kernel
theorem dX11_bath_63 : decode cX11_bath 63 = .ok (.aload 4, 2) := by decide +kernel
theorem dX11_bath_65 : decode cX11_bath 65 = .ok (.aload_n 2, 1) := by decide +kernel
theorem dX11_bath_66 : decode cX11_bath 66 = .ok (.iload 6, 2) := by decide +kernel
theorem dX11_bath_68 : decode cX11_bath 68 = .ok (.invokevirtual 86, 3) := by decide +kernel
theorem dX11_bath_71 : decode cX11_bath 71 = .ok (.ifCond .ne 10, 3) := by decide +kernel
theorem dX11_bath_74 : decode cX11_bath 74 = .ok (.sipush (-2000), 3) := by decide +kernel
theorem dX11_bath_77 : decode cX11_bath 77 = .ok (.iload 6, 2) := by decide +kernel
theorem dX11_bath_79 : decode cX11_bath 79 = .ok (.isub, 1) := by decide +kernel
theorem dX11_bath_80 : decode cX11_bath 80 = .ok (.ireturn, 1) := by decide +kernel
theorem dX11_bath_81 : decode cX11_bath 81 = .ok (.iinc 5 1, 3) := by decide +kernel
theorem dX11_bath_84 : decode cX11_bath 84 = .ok (.iload 6, 2) := by decide +kernel
theorem dX11_bath_86 : decode cX11_bath 86 = .ok (.aload_n 2, 1) := by decide +kernel
theorem dX11_bath_87 : decode cX11_bath 87 = .ok (.iload 6, 2) := by decide +kernel
theorem dX11_bath_89 : decode cX11_bath 89 = .ok (.invokevirtual 90, 3) := by decide +kernel
theorem dX11_bath_92 : decode cX11_bath 92 = .ok (.invokestatic 93, 3) := by decide +kernel
theorem dX11_bath_95 : decode cX11_bath 95 = .ok (.iconst 2, 1) := by decide +kernel
theorem dX11_bath_96 : decode cX11_bath 96 = .ok (.iadd, 1) := by decide +kernel
theorem dX11_bath_97 : decode cX11_bath 97 = .ok (.iadd, 1) := by decide +kernel
theorem dX11_bath_98 : decode cX11_bath 98 = .ok (.istore 6, 2) := by decide +kernel
theorem dX11_bath_100 : decode cX11_bath 100 = .ok (.goto (-46), 3) := by decide +kernel
theorem dX11_bath_103 : decode cX11_bath 103 = .ok (.aload_n 0, 1) := by decide +kernel
theorem dX11_bath_104 : decode cX11_bath 104 = .ok (.getfield 46, 3) := by decide +kernel
theorem dX11_bath_107 : decode cX11_bath 107 = .ok (.aload 4, 2) := by decide +kernel
theorem dX11_bath_109 : decode cX11_bath 109 = .ok (.invokevirtual 96, 3) := by decide +kernel
theorem dX11_bath_112 : decode cX11_bath 112 = .ok (.iload 5, 2) := by decide +kernel
theorem dX11_bath_114 : decode cX11_bath 114 = .ok (.ireturn, 1) := by decide +kernel
theorem dX11_child_0 : decode cX11_child 0 = .ok (.aload_n 0, 1) := by decide +kernel
theorem dX11_child_1 : decode cX11_child 1 = .ok (.getfield 46, 3) := by decide +kernel
theorem dX11_child_4 : decode cX11_child 4 = .ok (.iload_n 1, 1) := by decide +kernel
theorem dX11_child_5 : decode cX11_child 5 = .ok (.invokevirtual 100, 3) := by decide +kernel
theorem dX11_child_8 : decode cX11_child 8 = .ok (.ifCond .ne 5, 3) := by decide +kernel
theorem dX11_child_11 : decode cX11_child 11 = .ok (.iconst (-1), 1) := by decide +kernel
theorem dX11_child_12 : decode cX11_child 12 = .ok (.ireturn, 1) := by decide +kernel
theorem dX11_child_13 : decode cX11_child 13 = .ok (.aload_n 0, 1) := by decide +kernel
theorem dX11_child_14 : decode cX11_child 14 = .ok (.getfield 46, 3) := by decide +kernel
theorem dX11_child_17 : decode cX11_child 17 = .ok (.getfield 104, 3) := by decide +kernel
theorem dX11_child_20 : decode cX11_child 20 = .ok (.iload_n 1, 1) := by decide +kernel
theorem dX11_child_21 : decode cX11_child 21 = .ok (.aaload, 1) := by decide +kernel
theorem dX11_child_22 : decode cX11_child 22 = .ok (.astore_n 3, 1) := by decide +kernel
theorem dX11_child_23 : decode cX11_child 23 = .ok (.iload_n 2, 1) := by decide +kernel
theorem dX11_child_24 : decode cX11_child 24 = .ok (.tableswitch 124 0 9 #[56, 64, 72, 77, 82, 87, 95, 100, 108, 116], 56) := by decide +kernel
theorem dX11_child_80 : decode cX11_child 80 = .ok (.aload_n 3, 1) := by decide +kernel
theorem dX11_child_81 : decode cX11_child 81 = .ok (.getfield 108, 3) := by decide +kernel
theorem dX11_child_84 : decode cX11_child 84 = .ok (.getfield 112, 3) := by decide +kernel
theorem dX11_child_87 : decode cX11_child 87 = .ok (.ireturn, 1) := by decide +kernel
theorem dX11_child_88 : decode cX11_child 88 = .ok (.aload_n 3, 1) := by decide +kernel
theorem dX11_child_89 : decode cX11_child 89 = .ok (.getfield 108, 3) := by decide +kernel
theorem dX11_child_92 : decode cX11_child 92 = .ok (.getfield 115, 3) := by decide +kernel
theorem dX11_child_95 : decode cX11_child 95 = .ok (.ireturn, 1) := by decide +kernel
theorem dX11_child_96 : decode cX11_child 96 = .ok (.aload_n 3, 1) := by decide +kernel
theorem dX11_child_97 : decode cX11_child 97 = .ok (.getfield 118, 3) := by decide +kernel
theorem dX11_child_100 : decode cX11_child 100 = .ok (.ireturn, 1) := by decide +kernel
theorem dX11_child_101 : decode cX11_child 101 = .ok (.aload_n 3, 1) := by decide +kernel
theorem dX11_child_102 : decode cX11_child 102 = .ok (.getfield 121, 3) := by decide +kernel
theorem dX11_child_105 : decode cX11_child 105 = .ok (.ireturn, 1) := by decide +kernel
theorem dX11_child_106 : decode cX11_child 106 = .ok (.aload_n 3, 1) := by decide +kernel
theorem dX11_child_107 : decode cX11_child 107 = .ok (.getfield 124, 3) := by decide +kernel
theorem dX11_child_110 : decode cX11_child 110 = .ok (.ireturn, 1) := by decide +kernel
theorem dX11_child_111 : decode cX11_child 111 = .ok (.aload_n 3, 1) := by decide +kernel
theorem dX11_child_112 : decode cX11_child 112 = .ok (.getfield 108, 3) := by decide +kernel
theorem dX11_child_115 : decode cX11_child 115 = .ok (.getfield 127, 3) := by decide +kernel
theorem dX11_child_118 : decode cX11_child 118 = .ok (.ireturn, 1) := by decide +kernel
theorem dX11_child_119 : decode cX11_child 119 = .ok (.aload_n 3, 1) := by decide +kernel
theorem dX11_child_120 : decode cX11_child 120 = .ok (.invokevirtual 130, 3) := by decide +kernel
theorem dX11_child_123 : decode cX11_child 123 = .ok (.ireturn, 1) := by decide +kernel
theorem dX11_child_124 : decode cX11_child 124 = .ok (.aload_n 3, 1) := by decide +kernel
theorem dX11_child_125 : decode cX11_child 125 = .ok (.getfield 108, 3) := by decide +kernel
theorem dX11_child_128 : decode cX11_child 128 = .ok (.getfield 133, 3) := by decide +kernel
theorem dX11_child_131 : decode cX11_child 131 = .ok (.ireturn, 1) := by decide +kernel
theorem dX11_child_132 : decode cX11_child 132 = .ok (.aload_n 3, 1) := by decide +kernel
theorem dX11_child_133 : decode cX11_child 133 = .ok (.getfield 108, 3) := by decide +kernel
theorem dX11_child_136 : decode cX11_child 136 = .ok (.getfield 136, 3) := by decide +kernel
theorem dX11_child_139 : decode cX11_child 139 = .ok (.ireturn, 1) := by decide +kernel
theorem dX11_child_140 : decode cX11_child 140 = .ok (.aload_n 3, 1) := by decide +kernel
theorem dX11_child_141 : decode cX11_child 141 = .ok (.getfield 108, 3) := by decide +kernel
theorem dX11_child_144 : decode cX11_child 144 = .ok (.getfield 139, 3) := by decide +kernel
theorem dX11_child_147 : decode cX11_child 147 = .ok (.ireturn, 1) := by decide +kernel
theorem dX11_child_148 : decode cX11_child 148 = .ok (.iconst (-1), 1) := by decide +kernel
theorem dX11_child_149 : decode cX11_child 149 = .ok (.ireturn, 1) := by decide +kernel
theorem dX11_comes_0 : decode cX11_comes 0 = .ok (.iload_n 1, 1) := by decide +kernel
theorem dX11_comes_1 : decode cX11_comes 1 = .ok (.invokestatic 142, 3) := by decide +kernel
theorem dX11_comes_4 : decode cX11_comes 4 = .ok (.ifCond .eq 13, 3) := by decide +kernel
theorem dX11_comes_7 : decode cX11_comes 7 = .ok (.iload_n 2, 1) := by decide +kernel
theorem dX11_comes_8 : decode cX11_comes 8 = .ok (.iconst 0, 1) := by decide +kernel
theorem dX11_comes_9 : decode cX11_comes 9 = .ok (.bipush 20, 2) := by decide +kernel
theorem dX11_comes_11 : decode cX11_comes 11 = .ok (.invokestatic 145, 3) := by decide +kernel
theorem dX11_comes_14 : decode cX11_comes 14 = .ok (.ifCond .ne 5, 3) := by decide +kernel
theorem dX11_comes_17 : decode cX11_comes 17 = .ok (.iconst (-1), 1) := by decide +kernel
theorem dX11_comes_18 : decode cX11_comes 18 = .ok (.ireturn, 1) := by decide +kernel
theorem dX11_comes_19 : decode cX11_comes 19 = .ok (.aload_n 0, 1) := by decide +kernel
theorem dX11_comes_20 : decode cX11_comes 20 = .ok (.iload_n 1, 1) := by decide +kernel
theorem dX11_comes_21 : decode cX11_comes 21 = .ok (.invokevirtual 149, 3) := by decide +kernel
theorem dX11_comes_24 : decode cX11_comes 24 = .ok (.astore_n 3, 1) := by decide +kernel
theorem dX11_comes_25 : decode cX11_comes 25 = .ok (.aload_n 3, 1) := by decide +kernel
theorem dX11_comes_26 : decode cX11_comes 26 = .ok (.ifnonnull 9, 3) := by decide +kernel
theorem dX11_comes_29 : decode cX11_comes 29 = .ok (.aload_n 0, 1) := by decide +kernel
theorem dX11_comes_30 : decode cX11_comes 30 = .ok (.iload_n 1, 1) := by decide +kernel
theorem dX11_comes_31 : decode cX11_comes 31 = .ok (.invokevirtual 67, 3) := by decide +kernel
theorem dX11_comes_34 : decode cX11_comes 34 = .ok (.ireturn, 1) := by decide +kernel
theorem dX11_comes_35 : decode cX11_comes 35 = .ok (.aload_n 0, 1) := by decide +kernel
theorem dX11_comes_36 : decode cX11_comes 36 = .ok (.getfield 46, 3) := by decide +kernel
theorem dX11_comes_39 : decode cX11_comes 39 = .ok (.invokevirtual 153, 3) := by decide +kernel
theorem dX11_comes_42 : decode cX11_comes 42 = .ok (.ifCond .ne 6, 3) := by decide +kernel
theorem dX11_comes_45 : decode cX11_comes 45 = .ok (.bipush (-2), 2) := by decide +kernel
theorem dX11_comes_47 : decode cX11_comes 47 = .ok (.ireturn, 1) := by decide +kernel
theorem dX11_comes_48 : decode cX11_comes 48 = .ok (.aload_n 0, 1) := by decide +kernel
theorem dX11_comes_49 : decode cX11_comes 49 = .ok (.getfield 46, 3) := by decide +kernel
theorem dX11_comes_52 : decode cX11_comes 52 = .ok (.aload_n 3, 1) := by decide +kernel
theorem dX11_comes_53 : decode cX11_comes 53 = .ok (.iload_n 2, 1) := by decide +kernel
theorem dX11_comes_54 : decode cX11_comes 54 = .ok (.invokevirtual 157, 3) := by decide +kernel
theorem dX11_comes_57 : decode cX11_comes 57 = .ok (.aload_n 0, 1) := by decide +kernel
theorem dX11_comes_58 : decode cX11_comes 58 = .ok (.getfield 46, 3) := by decide +kernel
theorem dX11_comes_61 : decode cX11_comes 61 = .ok (.getfield 161, 3) := by decide +kernel
theorem dX11_comes_64 : decode cX11_comes 64 = .ok (.iconst 1, 1) := by decide +kernel
theorem dX11_comes_65 : decode cX11_comes 65 = .ok (.isub, 1) := by decide +kernel
theorem dX11_comes_66 : decode cX11_comes 66 = .ok (.ireturn, 1) := by decide +kernel
theorem dX11_feels_0 : decode cX11_feels 0 = .ok (.aload_n 0, 1) := by decide +kernel
theorem dX11_feels_1 : decode cX11_feels 1 = .ok (.getfield 46, 3) := by decide +kernel
theorem dX11_feels_4 : decode cX11_feels 4 = .ok (.iload_n 1, 1) := by decide +kernel
theorem dX11_feels_5 : decode cX11_feels 5 = .ok (.invokevirtual 100, 3) := by decide +kernel
theorem dX11_feels_8 : decode cX11_feels 8 = .ok (.ifCond .ne 5, 3) := by decide +kernel
theorem dX11_feels_11 : decode cX11_feels 11 = .ok (.iconst (-1), 1) := by decide +kernel
theorem dX11_feels_12 : decode cX11_feels 12 = .ok (.ireturn, 1) := by decide +kernel
theorem dX11_feels_13 : decode cX11_feels 13 = .ok (.aload_n 0, 1) := by decide +kernel
theorem dX11_feels_14 : decode cX11_feels 14 = .ok (.getfield 46, 3) := by decide +kernel
theorem dX11_feels_17 : decode cX11_feels 17 = .ok (.getfield 104, 3) := by decide +kernel
theorem dX11_feels_20 : decode cX11_feels 20 = .ok (.iload_n 1, 1) := by decide +kernel
theorem dX11_feels_21 : decode cX11_feels 21 = .ok (.aaload, 1) := by decide +kernel
theorem dX11_feels_22 : decode cX11_feels 22 = .ok (.astore 4, 2) := by decide +kernel
theorem dX11_feels_24 : decode cX11_feels 24 = .ok (.iload_n 2, 1) := by decide +kernel
theorem dX11_feels_25 : decode cX11_feels 25 = .ok (.ifCond .ne 11, 3) := by decide +kernel
theorem dX11_feels_28 : decode cX11_feels 28 = .ok (.aload 4, 2) := by decide +kernel
theorem dX11_feels_30 : decode cX11_feels 30 = .ok (.getfield 118, 3) := by decide +kernel
theorem dX11_feels_33 : decode cX11_feels 33 = .ok (.goto 8, 3) := by decide +kernel
theorem dX11_feels_36 : decode cX11_feels 36 = .ok (.aload 4, 2) := by decide +kernel
theorem dX11_feels_38 : decode cX11_feels 38 = .ok (.getfield 121, 3) := by decide +kernel
theorem dX11_feels_41 : decode cX11_feels 41 = .ok (.istore 5, 2) := by decide +kernel
theorem dX11_feels_43 : decode cX11_feels 43 = .ok (.iload_n 2, 1) := by decide +kernel
theorem dX11_feels_44 : decode cX11_feels 44 = .ok (.ifCond .ne 22, 3) := by decide +kernel
theorem dX11_feels_47 : decode cX11_feels 47 = .ok (.iload_n 3, 1) := by decide +kernel
theorem dX11_feels_48 : decode cX11_feels 48 = .ok (.iconst 0, 1) := by decide +kernel
theorem dX11_feels_49 : decode cX11_feels 49 = .ok (.bipush 20, 2) := by decide +kernel
theorem dX11_feels_51 : decode cX11_feels 51 = .ok (.invokestatic 145, 3) := by decide +kernel
theorem dX11_feels_54 : decode cX11_feels 54 = .ok (.ifCond .eq 12, 3) := by decide +kernel
theorem dX11_feels_57 : decode cX11_feels 57 = .ok (.aload 4, 2) := by decide +kernel
theorem dX11_feels_59 : decode cX11_feels 59 = .ok (.iload_n 3, 1) := by decide +kernel
theorem dX11_feels_60 : decode cX11_feels 60 = .ok (.putfield 118, 3) := by decide +kernel
theorem dX11_feels_63 : decode cX11_feels 63 = .ok (.iload 5, 2) := by decide +kernel
theorem dX11_feels_65 : decode cX11_feels 65 = .ok (.ireturn, 1) := by decide +kernel
theorem dX11_feels_66 : decode cX11_feels 66 = .ok (.iload_n 2, 1) := by decide +kernel
theorem dX11_feels_67 : decode cX11_feels 67 = .ok (.iconst 1, 1) := by decide +kernel
theorem dX11_feels_68 : decode cX11_feels 68 = .ok (.if_icmp .ne 22, 3) := by decide +kernel
theorem dX11_feels_71 : decode cX11_feels 71 = .ok (.iload_n 3, 1) := by decide +kernel
theorem dX11_feels_72 : decode cX11_feels 72 = .ok (.iconst 0, 1) := by decide +kernel
theorem dX11_feels_73 : decode cX11_feels 73 = .ok (.bipush 7, 2) := by decide +kernel
theorem dX11_feels_75 : decode cX11_feels 75 = .ok (.invokestatic 145, 3) := by decide +kernel
theorem dX11_feels_78 : decode cX11_feels 78 = .ok (.ifCond .eq 12, 3) := by decide +kernel
theorem dX11_feels_81 : decode cX11_feels 81 = .ok (.aload 4, 2) := by decide +kernel
theorem dX11_feels_83 : decode cX11_feels 83 = .ok (.iload_n 3, 1) := by decide +kernel
theorem dX11_feels_84 : decode cX11_feels 84 = .ok (.putfield 121, 3) := by decide +kernel
theorem dX11_feels_87 : decode cX11_feels 87 = .ok (.iload 5, 2) := by decide +kernel
theorem dX11_feels_89 : decode cX11_feels 89 = .ok (.ireturn, 1) := by decide +kernel
theorem dX11_feels_90 : decode cX11_feels 90 = .ok (.iconst (-1), 1) := by decide +kernel
theorem dX11_feels_91 : decode cX11_feels 91 = .ok (.ireturn, 1) := by decide +kernel
theorem dX11_minute_0 : decode cX11_minute 0 = .ok (.aload_n 0, 1) := by decide +kernel
theorem dX11_minute_1 : decode cX11_minute 1 = .ok (.getfield 46, 3) := by decide +kernel
theorem dX11_minute_4 : decode cX11_minute 4 = .ok (.iload_n 1, 1) := by decide +kernel
theorem dX11_minute_5 : decode cX11_minute 5 = .ok (.invokevirtual 100, 3) := by decide +kernel
theorem dX11_minute_8 : decode cX11_minute 8 = .ok (.ifCond .eq 12, 3) := by decide +kernel
theorem dX11_minute_11 : decode cX11_minute 11 = .ok (.iload_n 2, 1) := by decide +kernel
theorem dX11_minute_12 : decode cX11_minute 12 = .ok (.iconst 0, 1) := by decide +kernel
theorem dX11_minute_13 : decode cX11_minute 13 = .ok (.iconst 3, 1) := by decide +kernel
theorem dX11_minute_14 : decode cX11_minute 14 = .ok (.invokestatic 145, 3) := by decide +kernel
theorem dX11_minute_17 : decode cX11_minute 17 = .ok (.ifCond .ne 5, 3) := by decide +kernel
theorem dX11_minute_20 : decode cX11_minute 20 = .ok (.iconst (-1), 1) := by decide +kernel
theorem dX11_minute_21 : decode cX11_minute 21 = .ok (.ireturn, 1) := by decide +kernel
theorem dX11_minute_22 : decode cX11_minute 22 = .ok (.aload_n 0, 1) := by decide +kernel
theorem dX11_minute_23 : decode cX11_minute 23 = .ok (.getfield 46, 3) := by decide +kernel
theorem dX11_minute_26 : decode cX11_minute 26 = .ok (.getfield 104, 3) := by decide +kernel
theorem dX11_minute_29 : decode cX11_minute 29 = .ok (.iload_n 1, 1) := by decide +kernel
theorem dX11_minute_30 : decode cX11_minute 30 = .ok (.aaload, 1) := by decide +kernel
theorem dX11_minute_31 : decode cX11_minute 31 = .ok (.invokevirtual 163, 3) := by decide +kernel
theorem dX11_minute_34 : decode cX11_minute 34 = .ok (.ifCond .ne 16, 3) := by decide +kernel
theorem dX11_minute_37 : decode cX11_minute 37 = .ok (.aload_n 0, 1) := by decide +kernel
theorem dX11_minute_38 : decode cX11_minute 38 = .ok (.getfield 46, 3) := by decide +kernel
theorem dX11_minute_41 : decode cX11_minute 41 = .ok (.getfield 166, 3) := by decide +kernel
theorem dX11_minute_44 : decode cX11_minute 44 = .ok (.sipush 999, 3) := by decide +kernel
theorem dX11_minute_47 : decode cX11_minute 47 = .ok (.if_icmp .lt 6, 3) := by decide +kernel
theorem dX11_minute_50 : decode cX11_minute 50 = .ok (.bipush (-3), 2) := by decide +kernel
theorem dX11_minute_52 : decode cX11_minute 52 = .ok (.ireturn, 1) := by decide +kernel
theorem dX11_minute_53 : decode cX11_minute 53 = .ok (.aload_n 0, 1) := by decide +kernel
theorem dX11_minute_54 : decode cX11_minute 54 = .ok (.getfield 46, 3) := by decide +kernel
theorem dX11_minute_57 : decode cX11_minute 57 = .ok (.iload_n 1, 1) := by decide +kernel
theorem dX11_minute_58 : decode cX11_minute 58 = .ok (.iload_n 2, 1) := by decide +kernel
theorem dX11_minute_59 : decode cX11_minute 59 = .ok (.invokevirtual 169, 3) := by decide +kernel
theorem dX11_minute_62 : decode cX11_minute 62 = .ok (.pop, 1) := by decide +kernel
theorem dX11_minute_63 : decode cX11_minute 63 = .ok (.aload_n 0, 1) := by decide +kernel
theorem dX11_minute_64 : decode cX11_minute 64 = .ok (.getfield 46, 3) := by decide +kernel
theorem dX11_minute_67 : decode cX11_minute 67 = .ok (.getfield 104, 3) := by decide +kernel
theorem dX11_minute_70 : decode cX11_minute 70 = .ok (.iload_n 1, 1) := by decide +kernel
theorem dX11_minute_71 : decode cX11_minute 71 = .ok (.aaload, 1) := by decide +kernel
theorem dX11_minute_72 : decode cX11_minute 72 = .ok (.getfield 118, 3) := by decide +kernel
theorem dX11_minute_75 : decode cX11_minute 75 = .ok (.ireturn, 1) := by decide +kernel
theorem dX11_change_0 : decode cX11_change 0 = .ok (.aload_n 0, 1) := by decide +kernel
theorem dX11_change_1 : decode cX11_change 1 = .ok (.getfield 46, 3) := by decide +kernel
theorem dX11_change_4 : decode cX11_change 4 = .ok (.iload_n 1, 1) := by decide +kernel
theorem dX11_change_5 : decode cX11_change 5 = .ok (.iload_n 2, 1) := by decide +kernel
theorem dX11_change_6 : decode cX11_change 6 = .ok (.invokevirtual 173, 3) := by decide +kernel
theorem dX11_change_9 : decode cX11_change 9 = .ok (.ifCond .ne 5, 3) := by decide +kernel
theorem dX11_change_12 : decode cX11_change 12 = .ok (.iconst (-1), 1) := by decide +kernel
theorem dX11_change_13 : decode cX11_change 13 = .ok (.ireturn, 1) := by decide +kernel
theorem dX11_change_14 : decode cX11_change 14 = .ok (.aload_n 0, 1) := by decide +kernel
theorem dX11_change_15 : decode cX11_change 15 = .ok (.getfield 46, 3) := by decide +kernel
theorem dX11_change_18 : decode cX11_change 18 = .ok (.iload_n 1, 1) := by decide +kernel
theorem dX11_change_19 : decode cX11_change 19 = .ok (.iload_n 2, 1) := by decide +kernel
theorem dX11_change_20 : decode cX11_change 20 = .ok (.invokevirtual 176, 3) := by decide +kernel
theorem dX11_change_23 : decode cX11_change 23 = .ok (.iconst 1, 1) := by decide +kernel
theorem dX11_change_24 : decode cX11_change 24 = .ok (.ireturn, 1) := by decide +kernel
theorem dX11_rest_0 : decode cX11_rest 0 = .ok (.iload_n 1, 1) := by decide +kernel
theorem dX11_rest_1 : decode cX11_rest 1 = .ok (.iconst 0, 1) := by decide +kernel
theorem dX11_rest_2 : decode cX11_rest 2 = .ok (.bipush 9, 2) := by decide +kernel
theorem dX11_rest_4 : decode cX11_rest 4 = .ok (.invokestatic 145, 3) := by decide +kernel
theorem dX11_rest_7 : decode cX11_rest 7 = .ok (.ifCond .ne 5, 3) := by decide +kernel
theorem dX11_rest_10 : decode cX11_rest 10 = .ok (.iconst (-1), 1) := by decide +kernel
theorem dX11_rest_11 : decode cX11_rest 11 = .ok (.ireturn, 1) := by decide +kernel
theorem dX11_rest_12 : decode cX11_rest 12 = .ok (.aload_n 0, 1) := by decide +kernel
theorem dX11_rest_13 : decode cX11_rest 13 = .ok (.getfield 46, 3) := by decide +kernel
theorem dX11_rest_16 : decode cX11_rest 16 = .ok (.iload_n 1, 1) := by decide +kernel
theorem dX11_rest_17 : decode cX11_rest 17 = .ok (.invokevirtual 180, 3) := by decide +kernel
theorem dX11_rest_20 : decode cX11_rest 20 = .ok (.aload_n 0, 1) := by decide +kernel
theorem dX11_rest_21 : decode cX11_rest 21 = .ok (.getfield 46, 3) := by decide +kernel
theorem dX11_rest_24 : decode cX11_rest 24 = .ok (.invokevirtual 183, 3) := by decide +kernel
theorem dX11_rest_27 : decode cX11_rest 27 = .ok (.ireturn, 1) := by decide +kernel
theorem dX11_ready_0 : decode cX11_ready 0 = .ok (.aload_n 0, 1) := by decide +kernel
theorem dX11_ready_1 : decode cX11_ready 1 = .ok (.getfield 46, 3) := by decide +kernel
theorem dX11_ready_4 : decode cX11_ready 4 = .ok (.invokevirtual 186, 3) := by decide +kernel
theorem dX11_ready_7 : decode cX11_ready 7 = .ok (.ireturn, 1) := by decide +kernel
theorem dX11_alone_0 : decode cX11_alone 0 = .ok (.aload_n 0, 1) := by decide +kernel
theorem dX11_alone_1 : decode cX11_alone 1 = .ok (.getfield 46, 3) := by decide +kernel
theorem dX11_alone_4 : decode cX11_alone 4 = .ok (.iload_n 1, 1) := by decide +kernel
theorem dX11_alone_5 : decode cX11_alone 5 = .ok (.invokevirtual 100, 3) := by decide +kernel
theorem dX11_alone_8 : decode cX11_alone 8 = .ok (.ifCond .eq 12, 3) := by decide +kernel
theorem dX11_alone_11 : decode cX11_alone 11 = .ok (.iload_n 2, 1) := by decide +kernel
theorem dX11_alone_12 : decode cX11_alone 12 = .ok (.iconst 0, 1) := by decide +kernel
theorem dX11_alone_13 : decode cX11_alone 13 = .ok (.iconst 1, 1) := by decide +kernel
theorem dX11_alone_14 : decode cX11_alone 14 = .ok (.invokestatic 145, 3) := by decide +kernel
theorem dX11_alone_17 : decode cX11_alone 17 = .ok (.ifCond .ne 5, 3) := by decide +kernel
theorem dX11_alone_20 : decode cX11_alone 20 = .ok (.iconst (-1), 1) := by decide +kernel
theorem dX11_alone_21 : decode cX11_alone 21 = .ok (.ireturn, 1) := by decide +kernel
theorem dX11_alone_22 : decode cX11_alone 22 = .ok (.aload_n 0, 1) := by decide +kernel
theorem dX11_alone_23 : decode cX11_alone 23 = .ok (.aload_n 0, 1) := by decide +kernel
theorem dX11_alone_24 : decode cX11_alone 24 = .ok (.getfield 46, 3) := by decide +kernel
theorem dX11_alone_27 : decode cX11_alone 27 = .ok (.getfield 104, 3) := by decide +kernel
theorem dX11_alone_30 : decode cX11_alone 30 = .ok (.iload_n 1, 1) := by decide +kernel
theorem dX11_alone_31 : decode cX11_alone 31 = .ok (.aaload, 1) := by decide +kernel
theorem dX11_alone_32 : decode cX11_alone 32 = .ok (.iconst 0, 1) := by decide +kernel
theorem dX11_alone_33 : decode cX11_alone 33 = .ok (.invokevirtual 189, 3) := by decide +kernel
theorem dX11_alone_36 : decode cX11_alone 36 = .ok (.istore_n 3, 1) := by decide +kernel
theorem dX11_alone_37 : decode cX11_alone 37 = .ok (.iload_n 2, 1) := by decide +kernel
theorem dX11_alone_38 : decode cX11_alone 38 = .ok (.ifCond .ne 7, 3) := by decide +kernel
theorem dX11_alone_41 : decode cX11_alone 41 = .ok (.iload_n 3, 1) := by decide +kernel
theorem dX11_alone_42 : decode cX11_alone 42 = .ok (.goto 17, 3) := by decide +kernel
theorem dX11_alone_45 : decode cX11_alone 45 = .ok (.aload_n 0, 1) := by decide +kernel
theorem dX11_alone_46 : decode cX11_alone 46 = .ok (.aload_n 0, 1) := by decide +kernel
theorem dX11_alone_47 : decode cX11_alone 47 = .ok (.getfield 46, 3) := by decide +kernel
theorem dX11_alone_50 : decode cX11_alone 50 = .ok (.getfield 104, 3) := by decide +kernel
theorem dX11_alone_53 : decode cX11_alone 53 = .ok (.iload_n 1, 1) := by decide +kernel
theorem dX11_alone_54 : decode cX11_alone 54 = .ok (.aaload, 1) := by decide +kernel
theorem dX11_alone_55 : decode cX11_alone 55 = .ok (.iload_n 3, 1) := by decide +kernel
theorem dX11_alone_56 : decode cX11_alone 56 = .ok (.invokevirtual 193, 3) := by decide +kernel
theorem dX11_alone_59 : decode cX11_alone 59 = .ok (.ireturn, 1) := by decide +kernel
theorem dX11_neverHeld_0 : decode cX11_neverHeld 0 = .ok (.aload_n 0, 1) := by decide +kernel
theorem dX11_neverHeld_1 : decode cX11_neverHeld 1 = .ok (.getfield 46, 3) := by decide +kernel
theorem dX11_neverHeld_4 : decode cX11_neverHeld 4 = .ok (.iload_n 1, 1) := by decide +kernel
theorem dX11_neverHeld_5 : decode cX11_neverHeld 5 = .ok (.invokevirtual 100, 3) := by decide +kernel
theorem dX11_neverHeld_8 : decode cX11_neverHeld 8 = .ok (.ifCond .eq 20, 3) := by decide +kernel
theorem dX11_neverHeld_11 : decode cX11_neverHeld 11 = .ok (.aload_n 0, 1) := by decide +kernel
theorem dX11_neverHeld_12 : decode cX11_neverHeld 12 = .ok (.aload_n 0, 1) := by decide +kernel
theorem dX11_neverHeld_13 : decode cX11_neverHeld 13 = .ok (.getfield 46, 3) := by decide +kernel
theorem dX11_neverHeld_16 : decode cX11_neverHeld 16 = .ok (.getfield 104, 3) := by decide +kernel
theorem dX11_neverHeld_19 : decode cX11_neverHeld 19 = .ok (.iload_n 1, 1) := by decide +kernel
theorem dX11_neverHeld_20 : decode cX11_neverHeld 20 = .ok (.aaload, 1) := by decide +kernel
theorem dX11_neverHeld_21 : decode cX11_neverHeld 21 = .ok (.iconst 1, 1) := by decide +kernel
theorem dX11_neverHeld_22 : decode cX11_neverHeld 22 = .ok (.invokevirtual 189, 3) := by decide +kernel
theorem dX11_neverHeld_25 : decode cX11_neverHeld 25 = .ok (.goto 4, 3) := by decide +kernel
theorem dX11_neverHeld_28 : decode cX11_neverHeld 28 = .ok (.iconst (-1), 1) := by decide +kernel
theorem dX11_neverHeld_29 : decode cX11_neverHeld 29 = .ok (.ireturn, 1) := by decide +kernel
theorem dX11_mostSteps_0 : decode cX11_mostSteps 0 = .ok (.iload_n 1, 1) := by decide +kernel
theorem dX11_mostSteps_1 : decode cX11_mostSteps 1 = .ok (.iconst 0, 1) := by decide +kernel
theorem dX11_mostSteps_2 : decode cX11_mostSteps 2 = .ok (.iconst 3, 1) := by decide +kernel
theorem dX11_mostSteps_3 : decode cX11_mostSteps 3 = .ok (.invokestatic 145, 3) := by decide +kernel
theorem dX11_mostSteps_6 : decode cX11_mostSteps 6 = .ok (.ifCond .eq 12, 3) := by decide +kernel
theorem dX11_mostSteps_9 : decode cX11_mostSteps 9 = .ok (.iload_n 2, 1) := by decide +kernel
theorem dX11_mostSteps_10 : decode cX11_mostSteps 10 = .ok (.iconst 0, 1) := by decide +kernel
theorem dX11_mostSteps_11 : decode cX11_mostSteps 11 = .ok (.iconst 1, 1) := by decide +kernel
theorem dX11_mostSteps_12 : decode cX11_mostSteps 12 = .ok (.invokestatic 145, 3) := by decide +kernel
theorem dX11_mostSteps_15 : decode cX11_mostSteps 15 = .ok (.ifCond .ne 5, 3) := by decide +kernel
theorem dX11_mostSteps_18 : decode cX11_mostSteps 18 = .ok (.iconst (-1), 1) := by decide +kernel
theorem dX11_mostSteps_19 : decode cX11_mostSteps 19 = .ok (.ireturn, 1) := by decide +kernel
theorem dX11_mostSteps_20 : decode cX11_mostSteps 20 = .ok (.aload_n 0, 1) := by decide +kernel
theorem dX11_mostSteps_21 : decode cX11_mostSteps 21 = .ok (.invokevirtual 79, 3) := by decide +kernel
theorem dX11_mostSteps_24 : decode cX11_mostSteps 24 = .ok (.pop, 1) := by decide +kernel
theorem dX11_mostSteps_25 : decode cX11_mostSteps 25 = .ok (.aload_n 0, 1) := by decide +kernel
theorem dX11_mostSteps_26 : decode cX11_mostSteps 26 = .ok (.iconst 0, 1) := by decide +kernel
theorem dX11_mostSteps_27 : decode cX11_mostSteps 27 = .ok (.iload_n 1, 1) := by decide +kernel
theorem dX11_mostSteps_28 : decode cX11_mostSteps 28 = .ok (.invokevirtual 196, 3) := by decide +kernel
theorem dX11_mostSteps_31 : decode cX11_mostSteps 31 = .ok (.istore_n 3, 1) := by decide +kernel
theorem dX11_mostSteps_32 : decode cX11_mostSteps 32 = .ok (.iload_n 2, 1) := by decide +kernel
theorem dX11_mostSteps_33 : decode cX11_mostSteps 33 = .ok (.ifCond .ne 7, 3) := by decide +kernel
theorem dX11_mostSteps_36 : decode cX11_mostSteps 36 = .ok (.iload_n 3, 1) := by decide +kernel
theorem dX11_mostSteps_37 : decode cX11_mostSteps 37 = .ok (.goto 9, 3) := by decide +kernel
theorem dX11_mostSteps_40 : decode cX11_mostSteps 40 = .ok (.aload_n 0, 1) := by decide +kernel
theorem dX11_mostSteps_41 : decode cX11_mostSteps 41 = .ok (.iload_n 3, 1) := by decide +kernel
theorem dX11_mostSteps_42 : decode cX11_mostSteps 42 = .ok (.iload_n 1, 1) := by decide +kernel
theorem dX11_mostSteps_43 : decode cX11_mostSteps 43 = .ok (.invokevirtual 200, 3) := by decide +kernel
theorem dX11_mostSteps_46 : decode cX11_mostSteps 46 = .ok (.ireturn, 1) := by decide +kernel
theorem dX11_byTurns_0 : decode cX11_byTurns 0 = .ok (.iload_n 1, 1) := by decide +kernel
theorem dX11_byTurns_1 : decode cX11_byTurns 1 = .ok (.iconst 0, 1) := by decide +kernel
theorem dX11_byTurns_2 : decode cX11_byTurns 2 = .ok (.bipush 99, 2) := by decide +kernel
theorem dX11_byTurns_4 : decode cX11_byTurns 4 = .ok (.invokestatic 145, 3) := by decide +kernel
theorem dX11_byTurns_7 : decode cX11_byTurns 7 = .ok (.ifCond .eq 12, 3) := by decide +kernel
theorem dX11_byTurns_10 : decode cX11_byTurns 10 = .ok (.iload_n 2, 1) := by decide +kernel
theorem dX11_byTurns_11 : decode cX11_byTurns 11 = .ok (.iconst 0, 1) := by decide +kernel
theorem dX11_byTurns_12 : decode cX11_byTurns 12 = .ok (.iconst 1, 1) := by decide +kernel
theorem dX11_byTurns_13 : decode cX11_byTurns 13 = .ok (.invokestatic 145, 3) := by decide +kernel
theorem dX11_byTurns_16 : decode cX11_byTurns 16 = .ok (.ifCond .ne 5, 3) := by decide +kernel
theorem dX11_byTurns_19 : decode cX11_byTurns 19 = .ok (.iconst (-1), 1) := by decide +kernel
theorem dX11_byTurns_20 : decode cX11_byTurns 20 = .ok (.ireturn, 1) := by decide +kernel
theorem dX11_byTurns_21 : decode cX11_byTurns 21 = .ok (.aload_n 0, 1) := by decide +kernel
theorem dX11_byTurns_22 : decode cX11_byTurns 22 = .ok (.invokevirtual 79, 3) := by decide +kernel
theorem dX11_byTurns_25 : decode cX11_byTurns 25 = .ok (.astore_n 3, 1) := by decide +kernel
theorem dX11_byTurns_26 : decode cX11_byTurns 26 = .ok (.iconst 0, 1) := by decide +kernel
theorem dX11_byTurns_27 : decode cX11_byTurns 27 = .ok (.istore 4, 2) := by decide +kernel
theorem dX11_byTurns_29 : decode cX11_byTurns 29 = .ok (.iconst 0, 1) := by decide +kernel
theorem dX11_byTurns_30 : decode cX11_byTurns 30 = .ok (.istore 5, 2) := by decide +kernel
theorem dX11_byTurns_32 : decode cX11_byTurns 32 = .ok (.iload 5, 2) := by decide +kernel
theorem dX11_byTurns_34 : decode cX11_byTurns 34 = .ok (.iload_n 1, 1) := by decide +kernel
theorem dX11_byTurns_35 : decode cX11_byTurns 35 = .ok (.if_icmp .ge 19, 3) := by decide +kernel
theorem dX11_byTurns_38 : decode cX11_byTurns 38 = .ok (.aload_n 3, 1) := by decide +kernel
theorem dX11_byTurns_39 : decode cX11_byTurns 39 = .ok (.invokevirtual 203, 3) := by decide +kernel
theorem dX11_byTurns_42 : decode cX11_byTurns 42 = .ok (.ifCond .ne 6, 3) := by decide +kernel
theorem dX11_byTurns_45 : decode cX11_byTurns 45 = .ok (.iinc 4 1, 3) := by decide +kernel
theorem dX11_byTurns_48 : decode cX11_byTurns 48 = .ok (.iinc 5 1, 3) := by decide +kernel
theorem dX11_byTurns_51 : decode cX11_byTurns 51 = .ok (.goto (-19), 3) := by decide +kernel
theorem dX11_byTurns_54 : decode cX11_byTurns 54 = .ok (.iload_n 2, 1) := by decide +kernel
theorem dX11_byTurns_55 : decode cX11_byTurns 55 = .ok (.ifCond .ne 13, 3) := by decide +kernel
theorem dX11_byTurns_58 : decode cX11_byTurns 58 = .ok (.aload_n 3, 1) := by decide +kernel
theorem dX11_byTurns_59 : decode cX11_byTurns 59 = .ok (.invokevirtual 206, 3) := by decide +kernel
theorem dX11_byTurns_62 : decode cX11_byTurns 62 = .ok (.invokestatic 209, 3) := by decide +kernel
theorem dX11_byTurns_65 : decode cX11_byTurns 65 = .ok (.goto 5, 3) := by decide +kernel
theorem dX11_byTurns_68 : decode cX11_byTurns 68 = .ok (.iload 4, 2) := by decide +kernel
theorem dX11_byTurns_70 : decode cX11_byTurns 70 = .ok (.ireturn, 1) := by decide +kernel
theorem dX11_allSwim_0 : decode cX11_allSwim 0 = .ok (.aload_n 0, 1) := by decide +kernel
theorem dX11_allSwim_1 : decode cX11_allSwim 1 = .ok (.invokevirtual 79, 3) := by decide +kernel
theorem dX11_allSwim_4 : decode cX11_allSwim 4 = .ok (.astore_n 1, 1) := by decide +kernel
theorem dX11_allSwim_5 : decode cX11_allSwim 5 = .ok (.iconst 0, 1) := by decide +kernel
theorem dX11_allSwim_6 : decode cX11_allSwim 6 = .ok (.istore_n 2, 1) := by decide +kernel
theorem dX11_allSwim_7 : decode cX11_allSwim 7 = .ok (.iload_n 2, 1) := by decide +kernel
theorem dX11_allSwim_8 : decode cX11_allSwim 8 = .ok (.bipush 99, 2) := by decide +kernel
theorem dX11_allSwim_10 : decode cX11_allSwim 10 = .ok (.if_icmp .gt 20, 3) := by decide +kernel
theorem dX11_allSwim_13 : decode cX11_allSwim 13 = .ok (.aload_n 1, 1) := by decide +kernel
theorem dX11_allSwim_14 : decode cX11_allSwim 14 = .ok (.invokevirtual 203, 3) := by decide +kernel
theorem dX11_allSwim_17 : decode cX11_allSwim 17 = .ok (.bipush (-4), 2) := by decide +kernel
theorem dX11_allSwim_19 : decode cX11_allSwim 19 = .ok (.if_icmp .ne 5, 3) := by decide +kernel
theorem dX11_allSwim_22 : decode cX11_allSwim 22 = .ok (.iload_n 2, 1) := by decide +kernel
theorem dX11_allSwim_23 : decode cX11_allSwim 23 = .ok (.ireturn, 1) := by decide +kernel
theorem dX11_allSwim_24 : decode cX11_allSwim 24 = .ok (.iinc 2 1, 3) := by decide +kernel
theorem dX11_allSwim_27 : decode cX11_allSwim 27 = .ok (.goto (-20), 3) := by decide +kernel
theorem dX11_allSwim_30 : decode cX11_allSwim 30 = .ok (.bipush (-4), 2) := by decide +kernel
theorem dX11_allSwim_32 : decode cX11_allSwim 32 = .ok (.ireturn, 1) := by decide +kernel
theorem dX11_beside_0 : decode cX11_beside 0 = .ok (.iload_n 1, 1) := by decide +kernel
theorem dX11_beside_1 : decode cX11_beside 1 = .ok (.iconst (-1), 1) := by decide +kernel
theorem dX11_beside_2 : decode cX11_beside 2 = .ok (.if_icmp .lt 14, 3) := by decide +kernel
theorem dX11_beside_5 : decode cX11_beside 5 = .ok (.iload_n 1, 1) := by decide +kernel
theorem dX11_beside_6 : decode cX11_beside 6 = .ok (.aload_n 0, 1) := by decide +kernel
theorem dX11_beside_7 : decode cX11_beside 7 = .ok (.getfield 46, 3) := by decide +kernel
theorem dX11_beside_10 : decode cX11_beside 10 = .ok (.getfield 161, 3) := by decide +kernel
theorem dX11_beside_13 : decode cX11_beside 13 = .ok (.if_icmp .lt 5, 3) := by decide +kernel
theorem dX11_beside_16 : decode cX11_beside 16 = .ok (.iconst (-1), 1) := by decide +kernel
theorem dX11_beside_17 : decode cX11_beside 17 = .ok (.ireturn, 1) := by decide +kernel
theorem dX11_beside_18 : decode cX11_beside 18 = .ok (.aload_n 0, 1) := by decide +kernel
theorem dX11_beside_19 : decode cX11_beside 19 = .ok (.iconst (-1), 1) := by decide +kernel
theorem dX11_beside_20 : decode cX11_beside 20 = .ok (.putfield 214, 3) := by decide +kernel
theorem dX11_beside_23 : decode cX11_beside 23 = .ok (.aload_n 0, 1) := by decide +kernel
theorem dX11_beside_24 : decode cX11_beside 24 = .ok (.iconst 0, 1) := by decide +kernel
theorem dX11_beside_25 : decode cX11_beside 25 = .ok (.iconst 0, 1) := by decide +kernel
theorem dX11_beside_26 : decode cX11_beside 26 = .ok (.iconst 0, 1) := by decide +kernel
theorem dX11_beside_27 : decode cX11_beside 27 = .ok (.invokevirtual 217, 3) := by decide +kernel
theorem dX11_beside_30 : decode cX11_beside 30 = .ok (.iload_n 1, 1) := by decide +kernel
theorem dX11_beside_31 : decode cX11_beside 31 = .ok (.ifCond .ge 10, 3) := by decide +kernel
theorem dX11_beside_34 : decode cX11_beside 34 = .ok (.aload_n 0, 1) := by decide +kernel
theorem dX11_beside_35 : decode cX11_beside 35 = .ok (.getfield 214, 3) := by decide +kernel
theorem dX11_beside_38 : decode cX11_beside 38 = .ok (.goto 9, 3) := by decide +kernel
theorem dX11_beside_41 : decode cX11_beside 41 = .ok (.aload_n 0, 1) := by decide +kernel
theorem dX11_beside_42 : decode cX11_beside 42 = .ok (.getfield 25, 3) := by decide +kernel
theorem dX11_beside_45 : decode cX11_beside 45 = .ok (.iload_n 1, 1) := by decide +kernel
theorem dX11_beside_46 : decode cX11_beside 46 = .ok (.iaload, 1) := by decide +kernel
theorem dX11_beside_47 : decode cX11_beside 47 = .ok (.ireturn, 1) := by decide +kernel
theorem dX11_helps_0 : decode cX11_helps 0 = .ok (.iconst (-1), 1) := by decide +kernel
theorem dX11_helps_1 : decode cX11_helps 1 = .ok (.istore_n 1, 1) := by decide +kernel
theorem dX11_helps_2 : decode cX11_helps 2 = .ok (.bipush (-4), 2) := by decide +kernel
theorem dX11_helps_4 : decode cX11_helps 4 = .ok (.istore_n 2, 1) := by decide +kernel
theorem dX11_helps_5 : decode cX11_helps 5 = .ok (.iconst 0, 1) := by decide +kernel
theorem dX11_helps_6 : decode cX11_helps 6 = .ok (.istore_n 3, 1) := by decide +kernel
theorem dX11_helps_7 : decode cX11_helps 7 = .ok (.iload_n 3, 1) := by decide +kernel
theorem dX11_helps_8 : decode cX11_helps 8 = .ok (.aload_n 0, 1) := by decide +kernel
theorem dX11_helps_9 : decode cX11_helps 9 = .ok (.getfield 46, 3) := by decide +kernel
theorem dX11_helps_12 : decode cX11_helps 12 = .ok (.getfield 161, 3) := by decide +kernel
theorem dX11_helps_15 : decode cX11_helps 15 = .ok (.if_icmp .ge 58, 3) := by decide +kernel
theorem dX11_helps_18 : decode cX11_helps 18 = .ok (.aload_n 0, 1) := by decide +kernel
theorem dX11_helps_19 : decode cX11_helps 19 = .ok (.getfield 46, 3) := by decide +kernel
theorem dX11_helps_22 : decode cX11_helps 22 = .ok (.getfield 104, 3) := by decide +kernel
theorem dX11_helps_25 : decode cX11_helps 25 = .ok (.iload_n 3, 1) := by decide +kernel
theorem dX11_helps_26 : decode cX11_helps 26 = .ok (.aaload, 1) := by decide +kernel
theorem dX11_helps_27 : decode cX11_helps 27 = .ok (.astore 4, 2) := by decide +kernel
theorem dX11_helps_29 : decode cX11_helps 29 = .ok (.aload 4, 2) := by decide +kernel
theorem dX11_helps_31 : decode cX11_helps 31 = .ok (.getfield 108, 3) := by decide +kernel
theorem dX11_helps_34 : decode cX11_helps 34 = .ok (.getfield 139, 3) := by decide +kernel
theorem dX11_helps_37 : decode cX11_helps 37 = .ok (.aload_n 0, 1) := by decide +kernel
theorem dX11_helps_38 : decode cX11_helps 38 = .ok (.getfield 46, 3) := by decide +kernel
theorem dX11_helps_41 : decode cX11_helps 41 = .ok (.iload_n 3, 1) := by decide +kernel
theorem dX11_helps_42 : decode cX11_helps 42 = .ok (.invokevirtual 221, 3) := by decide +kernel
theorem dX11_helps_45 : decode cX11_helps 45 = .ok (.imul, 1) := by decide +kernel
theorem dX11_helps_46 : decode cX11_helps 46 = .ok (.istore 5, 2) := by decide +kernel
theorem dX11_helps_48 : decode cX11_helps 48 = .ok (.aload 4, 2) := by decide +kernel
theorem dX11_helps_50 : decode cX11_helps 50 = .ok (.invokevirtual 224, 3) := by decide +kernel
theorem dX11_helps_53 : decode cX11_helps 53 = .ok (.ifCond .eq 14, 3) := by decide +kernel
theorem dX11_helps_56 : decode cX11_helps 56 = .ok (.iload 5, 2) := by decide +kernel
theorem dX11_helps_58 : decode cX11_helps 58 = .ok (.iload_n 1, 1) := by decide +kernel
theorem dX11_helps_59 : decode cX11_helps 59 = .ok (.if_icmp .le 8, 3) := by decide +kernel
theorem dX11_helps_62 : decode cX11_helps 62 = .ok (.iload 5, 2) := by decide +kernel
theorem dX11_helps_64 : decode cX11_helps 64 = .ok (.istore_n 1, 1) := by decide +kernel
theorem dX11_helps_65 : decode cX11_helps 65 = .ok (.iload_n 3, 1) := by decide +kernel
theorem dX11_helps_66 : decode cX11_helps 66 = .ok (.istore_n 2, 1) := by decide +kernel
theorem dX11_helps_67 : decode cX11_helps 67 = .ok (.iinc 3 1, 3) := by decide +kernel
theorem dX11_helps_70 : decode cX11_helps 70 = .ok (.goto (-63), 3) := by decide +kernel
theorem dX11_helps_73 : decode cX11_helps 73 = .ok (.iload_n 2, 1) := by decide +kernel
theorem dX11_helps_74 : decode cX11_helps 74 = .ok (.ireturn, 1) := by decide +kernel
theorem dX11_costs_0 : decode cX11_costs 0 = .ok (.aload_n 0, 1) := by decide +kernel
theorem dX11_costs_1 : decode cX11_costs 1 = .ok (.getfield 46, 3) := by decide +kernel
theorem dX11_costs_4 : decode cX11_costs 4 = .ok (.iload_n 1, 1) := by decide +kernel
theorem dX11_costs_5 : decode cX11_costs 5 = .ok (.invokevirtual 100, 3) := by decide +kernel
theorem dX11_costs_8 : decode cX11_costs 8 = .ok (.ifCond .ne 5, 3) := by decide +kernel
theorem dX11_costs_11 : decode cX11_costs 11 = .ok (.iconst (-1), 1) := by decide +kernel
theorem dX11_costs_12 : decode cX11_costs 12 = .ok (.ireturn, 1) := by decide +kernel
theorem dX11_costs_13 : decode cX11_costs 13 = .ok (.aload_n 0, 1) := by decide +kernel
theorem dX11_costs_14 : decode cX11_costs 14 = .ok (.aload_n 0, 1) := by decide +kernel
theorem dX11_costs_15 : decode cX11_costs 15 = .ok (.getfield 46, 3) := by decide +kernel
theorem dX11_costs_18 : decode cX11_costs 18 = .ok (.getfield 104, 3) := by decide +kernel
theorem dX11_costs_21 : decode cX11_costs 21 = .ok (.iload_n 1, 1) := by decide +kernel
theorem dX11_costs_22 : decode cX11_costs 22 = .ok (.aaload, 1) := by decide +kernel
theorem dX11_costs_23 : decode cX11_costs 23 = .ok (.iconst 0, 1) := by decide +kernel
theorem dX11_costs_24 : decode cX11_costs 24 = .ok (.invokevirtual 189, 3) := by decide +kernel
theorem dX11_costs_27 : decode cX11_costs 27 = .ok (.istore_n 2, 1) := by decide +kernel
theorem dX11_costs_28 : decode cX11_costs 28 = .ok (.iload_n 2, 1) := by decide +kernel
theorem dX11_costs_29 : decode cX11_costs 29 = .ok (.bipush (-4), 2) := by decide +kernel
theorem dX11_costs_31 : decode cX11_costs 31 = .ok (.if_icmp .ne 6, 3) := by decide +kernel
theorem dX11_costs_34 : decode cX11_costs 34 = .ok (.bipush (-4), 2) := by decide +kernel
theorem dX11_costs_36 : decode cX11_costs 36 = .ok (.ireturn, 1) := by decide +kernel
theorem dX11_costs_37 : decode cX11_costs 37 = .ok (.aload_n 0, 1) := by decide +kernel
theorem dX11_costs_38 : decode cX11_costs 38 = .ok (.getfield 60, 3) := by decide +kernel
theorem dX11_costs_41 : decode cX11_costs 41 = .ok (.aload_n 0, 1) := by decide +kernel
theorem dX11_costs_42 : decode cX11_costs 42 = .ok (.getfield 46, 3) := by decide +kernel
theorem dX11_costs_45 : decode cX11_costs 45 = .ok (.getfield 104, 3) := by decide +kernel
theorem dX11_costs_48 : decode cX11_costs 48 = .ok (.iload_n 1, 1) := by decide +kernel
theorem dX11_costs_49 : decode cX11_costs 49 = .ok (.aaload, 1) := by decide +kernel
theorem dX11_costs_50 : decode cX11_costs 50 = .ok (.invokevirtual 227, 3) := by decide +kernel
theorem dX11_costs_53 : decode cX11_costs 53 = .ok (.aload_n 0, 1) := by decide +kernel
theorem dX11_costs_54 : decode cX11_costs 54 = .ok (.getfield 60, 3) := by decide +kernel
theorem dX11_costs_57 : decode cX11_costs 57 = .ok (.aload_n 0, 1) := by decide +kernel
theorem dX11_costs_58 : decode cX11_costs 58 = .ok (.getfield 60, 3) := by decide +kernel
theorem dX11_costs_61 : decode cX11_costs 61 = .ok (.getfield 108, 3) := by decide +kernel
theorem dX11_costs_64 : decode cX11_costs 64 = .ok (.getfield 133, 3) := by decide +kernel
theorem dX11_costs_67 : decode cX11_costs 67 = .ok (.ineg, 1) := by decide +kernel
theorem dX11_costs_68 : decode cX11_costs 68 = .ok (.invokevirtual 230, 3) := by decide +kernel
theorem dX11_costs_71 : decode cX11_costs 71 = .ok (.aload_n 0, 1) := by decide +kernel
theorem dX11_costs_72 : decode cX11_costs 72 = .ok (.aload_n 0, 1) := by decide +kernel
theorem dX11_costs_73 : decode cX11_costs 73 = .ok (.getfield 60, 3) := by decide +kernel
theorem dX11_costs_76 : decode cX11_costs 76 = .ok (.iconst 0, 1) := by decide +kernel
theorem dX11_costs_77 : decode cX11_costs 77 = .ok (.invokevirtual 189, 3) := by decide +kernel
theorem dX11_costs_80 : decode cX11_costs 80 = .ok (.istore_n 3, 1) := by decide +kernel
theorem dX11_costs_81 : decode cX11_costs 81 = .ok (.iload_n 3, 1) := by decide +kernel
theorem dX11_costs_82 : decode cX11_costs 82 = .ok (.bipush (-4), 2) := by decide +kernel
theorem dX11_costs_84 : decode cX11_costs 84 = .ok (.if_icmp .ne 8, 3) := by decide +kernel
theorem dX11_costs_87 : decode cX11_costs 87 = .ok (.bipush 60, 2) := by decide +kernel
theorem dX11_costs_89 : decode cX11_costs 89 = .ok (.goto 4, 3) := by decide +kernel
theorem dX11_costs_92 : decode cX11_costs 92 = .ok (.iload_n 3, 1) := by decide +kernel
theorem dX11_costs_93 : decode cX11_costs 93 = .ok (.iload_n 2, 1) := by decide +kernel
theorem dX11_costs_94 : decode cX11_costs 94 = .ok (.isub, 1) := by decide +kernel
theorem dX11_costs_95 : decode cX11_costs 95 = .ok (.ireturn, 1) := by decide +kernel
theorem dX11_bands_0 : decode cX11_bands 0 = .ok (.aload_n 0, 1) := by decide +kernel
theorem dX11_bands_1 : decode cX11_bands 1 = .ok (.getfield 46, 3) := by decide +kernel
theorem dX11_bands_4 : decode cX11_bands 4 = .ok (.iload_n 1, 1) := by decide +kernel
theorem dX11_bands_5 : decode cX11_bands 5 = .ok (.invokevirtual 100, 3) := by decide +kernel
theorem dX11_bands_8 : decode cX11_bands 8 = .ok (.ifCond .eq 23, 3) := by decide +kernel
theorem dX11_bands_11 : decode cX11_bands 11 = .ok (.iload_n 2, 1) := by decide +kernel
theorem dX11_bands_12 : decode cX11_bands 12 = .ok (.iconst 0, 1) := by decide +kernel
theorem dX11_bands_13 : decode cX11_bands 13 = .ok (.bipush 9, 2) := by decide +kernel
theorem dX11_bands_15 : decode cX11_bands 15 = .ok (.invokestatic 145, 3) := by decide +kernel
theorem dX11_bands_18 : decode cX11_bands 18 = .ok (.ifCond .eq 13, 3) := by decide +kernel
theorem dX11_bands_21 : decode cX11_bands 21 = .ok (.iload_n 3, 1) := by decide +kernel
theorem dX11_bands_22 : decode cX11_bands 22 = .ok (.iconst 1, 1) := by decide +kernel
theorem dX11_bands_23 : decode cX11_bands 23 = .ok (.bipush 9, 2) := by decide +kernel
theorem dX11_bands_25 : decode cX11_bands 25 = .ok (.invokestatic 145, 3) := by decide +kernel
theorem dX11_bands_28 : decode cX11_bands 28 = .ok (.ifCond .ne 5, 3) := by decide +kernel
theorem dX11_bands_31 : decode cX11_bands 31 = .ok (.iconst (-1), 1) := by decide +kernel
theorem dX11_bands_32 : decode cX11_bands 32 = .ok (.ireturn, 1) := by decide +kernel
theorem dX11_bands_33 : decode cX11_bands 33 = .ok (.aload_n 0, 1) := by decide +kernel
theorem dX11_bands_34 : decode cX11_bands 34 = .ok (.getfield 46, 3) := by decide +kernel
theorem dX11_bands_37 : decode cX11_bands 37 = .ok (.getfield 104, 3) := by decide +kernel
theorem dX11_bands_40 : decode cX11_bands 40 = .ok (.iload_n 1, 1) := by decide +kernel
theorem dX11_bands_41 : decode cX11_bands 41 = .ok (.aaload, 1) := by decide +kernel
theorem dX11_bands_42 : decode cX11_bands 42 = .ok (.astore 4, 2) := by decide +kernel
theorem dX11_bands_44 : decode cX11_bands 44 = .ok (.aload 4, 2) := by decide +kernel
theorem dX11_bands_46 : decode cX11_bands 46 = .ok (.invokevirtual 163, 3) := by decide +kernel
theorem dX11_bands_49 : decode cX11_bands 49 = .ok (.ifCond .eq 6, 3) := by decide +kernel
theorem dX11_bands_52 : decode cX11_bands 52 = .ok (.bipush (-3), 2) := by decide +kernel
theorem dX11_bands_54 : decode cX11_bands 54 = .ok (.ireturn, 1) := by decide +kernel
theorem dX11_bands_55 : decode cX11_bands 55 = .ok (.iconst 0, 1) := by decide +kernel
theorem dX11_bands_56 : decode cX11_bands 56 = .ok (.istore 5, 2) := by decide +kernel
theorem dX11_bands_58 : decode cX11_bands 58 = .ok (.iload 5, 2) := by decide +kernel
theorem dX11_bands_60 : decode cX11_bands 60 = .ok (.iload_n 2, 1) := by decide +kernel
theorem dX11_bands_61 : decode cX11_bands 61 = .ok (.if_icmp .gt 64, 3) := by decide +kernel
theorem dX11_bands_64 : decode cX11_bands 64 = .ok (.iconst 0, 1) := by decide +kernel
theorem dX11_bands_65 : decode cX11_bands 65 = .ok (.iload_n 2, 1) := by decide +kernel
theorem dX11_bands_66 : decode cX11_bands 66 = .ok (.iload 5, 2) := by decide +kernel
theorem dX11_bands_68 : decode cX11_bands 68 = .ok (.iload_n 3, 1) := by decide +kernel
theorem dX11_bands_69 : decode cX11_bands 69 = .ok (.imul, 1) := by decide +kernel
theorem dX11_bands_70 : decode cX11_bands 70 = .ok (.isub, 1) := by decide +kernel
theorem dX11_bands_71 : decode cX11_bands 71 = .ok (.invokestatic 233, 3) := by decide +kernel
theorem dX11_bands_74 : decode cX11_bands 74 = .ok (.istore 6, 2) := by decide +kernel
theorem dX11_bands_76 : decode cX11_bands 76 = .ok (.bipush 20, 2) := by decide +kernel
theorem dX11_bands_78 : decode cX11_bands 78 = .ok (.aload 4, 2) := by decide +kernel
theorem dX11_bands_80 : decode cX11_bands 80 = .ok (.getfield 118, 3) := by decide +kernel
theorem dX11_bands_83 : decode cX11_bands 83 = .ok (.iload 5, 2) := by decide +kernel
theorem dX11_bands_85 : decode cX11_bands 85 = .ok (.iadd, 1) := by decide +kernel
theorem dX11_bands_86 : decode cX11_bands 86 = .ok (.invokestatic 238, 3) := by decide +kernel
theorem dX11_bands_89 : decode cX11_bands 89 = .ok (.istore 7, 2) := by decide +kernel
theorem dX11_bands_91 : decode cX11_bands 91 = .ok (.iload 7, 2) := by decide +kernel
theorem dX11_bands_93 : decode cX11_bands 93 = .ok (.iconst 0, 1) := by decide +kernel
theorem dX11_bands_94 : decode cX11_bands 94 = .ok (.aload 4, 2) := by decide +kernel
theorem dX11_bands_96 : decode cX11_bands 96 = .ok (.invokevirtual 130, 3) := by decide +kernel
theorem dX11_bands_99 : decode cX11_bands 99 = .ok (.iload 6, 2) := by decide +kernel
theorem dX11_bands_101 : decode cX11_bands 101 = .ok (.isub, 1) := by decide +kernel
theorem dX11_bands_102 : decode cX11_bands 102 = .ok (.invokestatic 233, 3) := by decide +kernel
theorem dX11_bands_105 : decode cX11_bands 105 = .ok (.if_icmp .ge 6, 3) := by decide +kernel
theorem dX11_bands_108 : decode cX11_bands 108 = .ok (.iload 5, 2) := by decide +kernel
theorem dX11_bands_110 : decode cX11_bands 110 = .ok (.ireturn, 1) := by decide +kernel
theorem dX11_bands_111 : decode cX11_bands 111 = .ok (.iload 6, 2) := by decide +kernel
theorem dX11_bands_113 : decode cX11_bands 113 = .ok (.ifCond .ne 6, 3) := by decide +kernel
theorem dX11_bands_116 : decode cX11_bands 116 = .ok (.bipush (-4), 2) := by decide +kernel
theorem dX11_bands_118 : decode cX11_bands 118 = .ok (.ireturn, 1) := by decide +kernel
theorem dX11_bands_119 : decode cX11_bands 119 = .ok (.iinc 5 1, 3) := by decide +kernel
theorem dX11_bands_122 : decode cX11_bands 122 = .ok (.goto (-64), 3) := by decide +kernel
theorem dX11_bands_125 : decode cX11_bands 125 = .ok (.bipush (-4), 2) := by decide +kernel
theorem dX11_bands_127 : decode cX11_bands 127 = .ok (.ireturn, 1) := by decide +kernel
theorem dX11_frights_0 : decode cX11_frights 0 = .ok (.aload_n 0, 1) := by decide +kernel
theorem dX11_frights_1 : decode cX11_frights 1 = .ok (.getfield 46, 3) := by decide +kernel
theorem dX11_frights_4 : decode cX11_frights 4 = .ok (.iload_n 1, 1) := by decide +kernel
theorem dX11_frights_5 : decode cX11_frights 5 = .ok (.invokevirtual 100, 3) := by decide +kernel
theorem dX11_frights_8 : decode cX11_frights 8 = .ok (.ifCond .eq 44, 3) := by decide +kernel
theorem dX11_frights_11 : decode cX11_frights 11 = .ok (.iload_n 2, 1) := by decide +kernel
theorem dX11_frights_12 : decode cX11_frights 12 = .ok (.iconst 0, 1) := by decide +kernel
theorem dX11_frights_13 : decode cX11_frights 13 = .ok (.bipush 8, 2) := by decide +kernel
theorem dX11_frights_15 : decode cX11_frights 15 = .ok (.invokestatic 145, 3) := by decide +kernel
theorem dX11_frights_18 : decode cX11_frights 18 = .ok (.ifCond .eq 34, 3) := by decide +kernel
theorem dX11_frights_21 : decode cX11_frights 21 = .ok (.iload_n 3, 1) := by decide +kernel
theorem dX11_frights_22 : decode cX11_frights 22 = .ok (.iconst 0, 1) := by decide +kernel
theorem dX11_frights_23 : decode cX11_frights 23 = .ok (.bipush 7, 2) := by decide +kernel
theorem dX11_frights_25 : decode cX11_frights 25 = .ok (.invokestatic 145, 3) := by decide +kernel
theorem dX11_frights_28 : decode cX11_frights 28 = .ok (.ifCond .eq 24, 3) := by decide +kernel
theorem dX11_frights_31 : decode cX11_frights 31 = .ok (.iload 4, 2) := by decide +kernel
theorem dX11_frights_33 : decode cX11_frights 33 = .ok (.iconst 2, 1) := by decide +kernel
theorem dX11_frights_34 : decode cX11_frights 34 = .ok (.bipush 20, 2) := by decide +kernel
theorem dX11_frights_36 : decode cX11_frights 36 = .ok (.invokestatic 145, 3) := by decide +kernel
theorem dX11_frights_39 : decode cX11_frights 39 = .ok (.ifCond .eq 13, 3) := by decide +kernel
theorem dX11_frights_42 : decode cX11_frights 42 = .ok (.iload 5, 2) := by decide +kernel
theorem dX11_frights_44 : decode cX11_frights 44 = .ok (.iconst 0, 1) := by decide +kernel
theorem dX11_frights_45 : decode cX11_frights 45 = .ok (.iconst 1, 1) := by decide +kernel
theorem dX11_frights_46 : decode cX11_frights 46 = .ok (.invokestatic 145, 3) := by decide +kernel
theorem dX11_frights_49 : decode cX11_frights 49 = .ok (.ifCond .ne 7, 3) := by decide +kernel
theorem dX11_frights_52 : decode cX11_frights 52 = .ok (.ldc2_w 241, 3) := by decide +kernel
theorem dX11_frights_55 : decode cX11_frights 55 = .ok (.lreturn, 1) := by decide +kernel
theorem dX11_frights_56 : decode cX11_frights 56 = .ok (.aload_n 0, 1) := by decide +kernel
theorem dX11_frights_57 : decode cX11_frights 57 = .ok (.getfield 46, 3) := by decide +kernel
theorem dX11_frights_60 : decode cX11_frights 60 = .ok (.getfield 104, 3) := by decide +kernel
theorem dX11_frights_63 : decode cX11_frights 63 = .ok (.iload_n 1, 1) := by decide +kernel
theorem dX11_frights_64 : decode cX11_frights 64 = .ok (.aaload, 1) := by decide +kernel
theorem dX11_frights_65 : decode cX11_frights 65 = .ok (.astore 6, 2) := by decide +kernel
theorem dX11_frights_67 : decode cX11_frights 67 = .ok (.lconst 1, 1) := by decide +kernel
theorem dX11_frights_68 : decode cX11_frights 68 = .ok (.lstore 7, 2) := by decide +kernel
theorem dX11_frights_70 : decode cX11_frights 70 = .ok (.iconst 0, 1) := by decide +kernel
theorem dX11_frights_71 : decode cX11_frights 71 = .ok (.istore 9, 2) := by decide +kernel
theorem dX11_frights_73 : decode cX11_frights 73 = .ok (.iload 9, 2) := by decide +kernel
theorem dX11_frights_75 : decode cX11_frights 75 = .ok (.iload_n 2, 1) := by decide +kernel
theorem dX11_frights_76 : decode cX11_frights 76 = .ok (.if_icmp .ge 17, 3) := by decide +kernel
theorem dX11_frights_79 : decode cX11_frights 79 = .ok (.lload 7, 2) := by decide +kernel
theorem dX11_frights_81 : decode cX11_frights 81 = .ok (.iload 4, 2) := by decide +kernel
theorem dX11_frights_83 : decode cX11_frights 83 = .ok (.i2l, 1) := by decide +kernel
theorem dX11_frights_84 : decode cX11_frights 84 = .ok (.lmul, 1) := by decide +kernel
theorem dX11_frights_85 : decode cX11_frights 85 = .ok (.lstore 7, 2) := by decide +kernel
theorem dX11_frights_87 : decode cX11_frights 87 = .ok (.iinc 9 1, 3) := by decide +kernel
theorem dX11_frights_90 : decode cX11_frights 90 = .ok (.goto (-17), 3) := by decide +kernel
theorem dX11_frights_93 : decode cX11_frights 93 = .ok (.aload 6, 2) := by decide +kernel
theorem dX11_frights_95 : decode cX11_frights 95 = .ok (.getfield 108, 3) := by decide +kernel
theorem dX11_frights_98 : decode cX11_frights 98 = .ok (.aload 6, 2) := by decide +kernel
theorem dX11_frights_100 : decode cX11_frights 100 = .ok (.getfield 118, 3) := by decide +kernel
theorem dX11_frights_103 : decode cX11_frights 103 = .ok (.aload 6, 2) := by decide +kernel
theorem dX11_frights_105 : decode cX11_frights 105 = .ok (.getfield 121, 3) := by decide +kernel
theorem dX11_frights_108 : decode cX11_frights 108 = .ok (.aload 6, 2) := by decide +kernel
theorem dX11_frights_110 : decode cX11_frights 110 = .ok (.getfield 121, 3) := by decide +kernel
theorem dX11_frights_113 : decode cX11_frights 113 = .ok (.iload_n 3, 1) := by decide +kernel
theorem dX11_frights_114 : decode cX11_frights 114 = .ok (.iadd, 1) := by decide +kernel
theorem dX11_frights_115 : decode cX11_frights 115 = .ok (.iload_n 2, 1) := by decide +kernel
theorem dX11_frights_116 : decode cX11_frights 116 = .ok (.iload 4, 2) := by decide +kernel
theorem dX11_frights_118 : decode cX11_frights 118 = .ok (.invokestatic 243, 3) := by decide +kernel
theorem dX11_frights_121 : decode cX11_frights 121 = .ok (.lstore 9, 2) := by decide +kernel
theorem dX11_frights_123 : decode cX11_frights 123 = .ok (.lload 9, 2) := by decide +kernel
theorem dX11_frights_125 : decode cX11_frights 125 = .ok (.lload 7, 2) := by decide +kernel
theorem dX11_frights_127 : decode cX11_frights 127 = .ok (.iload 5, 2) := by decide +kernel
theorem dX11_frights_129 : decode cX11_frights 129 = .ok (.invokestatic 247, 3) := by decide +kernel
theorem dX11_frights_132 : decode cX11_frights 132 = .ok (.lreturn, 1) := by decide +kernel
theorem dX11_was_0 : decode cX11_was 0 = .ok (.iload_n 1, 1) := by decide +kernel
theorem dX11_was_1 : decode cX11_was 1 = .ok (.invokestatic 142, 3) := by decide +kernel
theorem dX11_was_4 : decode cX11_was 4 = .ok (.ifCond .eq 33, 3) := by decide +kernel
theorem dX11_was_7 : decode cX11_was 7 = .ok (.iload_n 2, 1) := by decide +kernel
theorem dX11_was_8 : decode cX11_was 8 = .ok (.iconst 0, 1) := by decide +kernel
theorem dX11_was_9 : decode cX11_was 9 = .ok (.bipush 20, 2) := by decide +kernel
theorem dX11_was_11 : decode cX11_was 11 = .ok (.invokestatic 145, 3) := by decide +kernel
theorem dX11_was_14 : decode cX11_was 14 = .ok (.ifCond .eq 23, 3) := by decide +kernel
theorem dX11_was_17 : decode cX11_was 17 = .ok (.iload_n 3, 1) := by decide +kernel
theorem dX11_was_18 : decode cX11_was 18 = .ok (.iconst 0, 1) := by decide +kernel
theorem dX11_was_19 : decode cX11_was 19 = .ok (.bipush 9, 2) := by decide +kernel
theorem dX11_was_21 : decode cX11_was 21 = .ok (.invokestatic 145, 3) := by decide +kernel
theorem dX11_was_24 : decode cX11_was 24 = .ok (.ifCond .eq 13, 3) := by decide +kernel
theorem dX11_was_27 : decode cX11_was 27 = .ok (.iload 4, 2) := by decide +kernel
theorem dX11_was_29 : decode cX11_was 29 = .ok (.iconst 0, 1) := by decide +kernel
theorem dX11_was_30 : decode cX11_was 30 = .ok (.iconst 1, 1) := by decide +kernel
theorem dX11_was_31 : decode cX11_was 31 = .ok (.invokestatic 145, 3) := by decide +kernel
theorem dX11_was_34 : decode cX11_was 34 = .ok (.ifCond .ne 5, 3) := by decide +kernel
theorem dX11_was_37 : decode cX11_was 37 = .ok (.iconst (-1), 1) := by decide +kernel
theorem dX11_was_38 : decode cX11_was 38 = .ok (.ireturn, 1) := by decide +kernel
theorem dX11_was_39 : decode cX11_was 39 = .ok (.aload_n 0, 1) := by decide +kernel
theorem dX11_was_40 : decode cX11_was 40 = .ok (.iload_n 1, 1) := by decide +kernel
theorem dX11_was_41 : decode cX11_was 41 = .ok (.invokevirtual 63, 3) := by decide +kernel
theorem dX11_was_44 : decode cX11_was 44 = .ok (.astore 5, 2) := by decide +kernel
theorem dX11_was_46 : decode cX11_was 46 = .ok (.aload 5, 2) := by decide +kernel
theorem dX11_was_48 : decode cX11_was 48 = .ok (.ifnonnull 9, 3) := by decide +kernel
theorem dX11_was_51 : decode cX11_was 51 = .ok (.aload_n 0, 1) := by decide +kernel
theorem dX11_was_52 : decode cX11_was 52 = .ok (.iload_n 1, 1) := by decide +kernel
theorem dX11_was_53 : decode cX11_was 53 = .ok (.invokevirtual 67, 3) := by decide +kernel
theorem dX11_was_56 : decode cX11_was 56 = .ok (.ireturn, 1) := by decide +kernel
theorem dX11_was_57 : decode cX11_was 57 = .ok (.iconst 0, 1) := by decide +kernel
theorem dX11_was_58 : decode cX11_was 58 = .ok (.istore 6, 2) := by decide +kernel
theorem dX11_was_60 : decode cX11_was 60 = .ok (.iconst 0, 1) := by decide +kernel
theorem dX11_was_61 : decode cX11_was 61 = .ok (.istore 7, 2) := by decide +kernel
theorem dX11_was_63 : decode cX11_was 63 = .ok (.iload 7, 2) := by decide +kernel
theorem dX11_was_65 : decode cX11_was 65 = .ok (.bipush 7, 2) := by decide +kernel
theorem dX11_was_67 : decode cX11_was 67 = .ok (.if_icmp .gt 36, 3) := by decide +kernel
theorem dX11_was_70 : decode cX11_was 70 = .ok (.aload 5, 2) := by decide +kernel
theorem dX11_was_72 : decode cX11_was 72 = .ok (.iload_n 2, 1) := by decide +kernel
theorem dX11_was_73 : decode cX11_was 73 = .ok (.iload 7, 2) := by decide +kernel
theorem dX11_was_75 : decode cX11_was 75 = .ok (.iload_n 3, 1) := by decide +kernel
theorem dX11_was_76 : decode cX11_was 76 = .ok (.invokestatic 251, 3) := by decide +kernel
theorem dX11_was_79 : decode cX11_was 79 = .ok (.getfield 127, 3) := by decide +kernel
theorem dX11_was_82 : decode cX11_was 82 = .ok (.invokestatic 255, 3) := by decide +kernel
theorem dX11_was_85 : decode cX11_was 85 = .ok (.ifCond .eq 12, 3) := by decide +kernel
theorem dX11_was_88 : decode cX11_was 88 = .ok (.iload 6, 2) := by decide +kernel
theorem dX11_was_90 : decode cX11_was 90 = .ok (.iconst 1, 1) := by decide +kernel
theorem dX11_was_91 : decode cX11_was 91 = .ok (.iload 7, 2) := by decide +kernel
theorem dX11_was_93 : decode cX11_was 93 = .ok (.ishl, 1) := by decide +kernel
theorem dX11_was_94 : decode cX11_was 94 = .ok (.ior, 1) := by decide +kernel
theorem dX11_was_95 : decode cX11_was 95 = .ok (.istore 6, 2) := by decide +kernel
theorem dX11_was_97 : decode cX11_was 97 = .ok (.iinc 7 1, 3) := by decide +kernel
theorem dX11_was_100 : decode cX11_was 100 = .ok (.goto (-37), 3) := by decide +kernel
theorem dX11_was_103 : decode cX11_was 103 = .ok (.iload 4, 2) := by decide +kernel
theorem dX11_was_105 : decode cX11_was 105 = .ok (.ifCond .ne 8, 3) := by decide +kernel
theorem dX11_was_108 : decode cX11_was 108 = .ok (.iload 6, 2) := by decide +kernel
theorem dX11_was_110 : decode cX11_was 110 = .ok (.goto 8, 3) := by decide +kernel
theorem dX11_was_113 : decode cX11_was 113 = .ok (.iload 6, 2) := by decide +kernel
theorem dX11_was_115 : decode cX11_was 115 = .ok (.invokestatic 209, 3) := by decide +kernel
theorem dX11_was_118 : decode cX11_was 118 = .ok (.ireturn, 1) := by decide +kernel
theorem dX11_dare_0 : decode cX11_dare 0 = .ok (.aload_n 0, 1) := by decide +kernel
theorem dX11_dare_1 : decode cX11_dare 1 = .ok (.getfield 46, 3) := by decide +kernel
theorem dX11_dare_4 : decode cX11_dare 4 = .ok (.iload_n 1, 1) := by decide +kernel
theorem dX11_dare_5 : decode cX11_dare 5 = .ok (.iload_n 2, 1) := by decide +kernel
theorem dX11_dare_6 : decode cX11_dare 6 = .ok (.invokevirtual 173, 3) := by decide +kernel
theorem dX11_dare_9 : decode cX11_dare 9 = .ok (.ifCond .ne 5, 3) := by decide +kernel
theorem dX11_dare_12 : decode cX11_dare 12 = .ok (.iconst (-1), 1) := by decide +kernel
theorem dX11_dare_13 : decode cX11_dare 13 = .ok (.ireturn, 1) := by decide +kernel
theorem dX11_dare_14 : decode cX11_dare 14 = .ok (.iconst 0, 1) := by decide +kernel
theorem dX11_dare_15 : decode cX11_dare 15 = .ok (.istore_n 3, 1) := by decide +kernel
theorem dX11_dare_16 : decode cX11_dare 16 = .ok (.iload_n 3, 1) := by decide +kernel
theorem dX11_dare_17 : decode cX11_dare 17 = .ok (.iconst 1, 1) := by decide +kernel
theorem dX11_dare_18 : decode cX11_dare 18 = .ok (.if_icmp .gt 68, 3) := by decide +kernel
theorem dX11_dare_21 : decode cX11_dare 21 = .ok (.iconst 0, 1) := by decide +kernel
theorem dX11_dare_22 : decode cX11_dare 22 = .ok (.istore 4, 2) := by decide +kernel
theorem dX11_dare_24 : decode cX11_dare 24 = .ok (.iload 4, 2) := by decide +kernel
theorem dX11_dare_26 : decode cX11_dare 26 = .ok (.iconst 1, 1) := by decide +kernel
theorem dX11_dare_27 : decode cX11_dare 27 = .ok (.if_icmp .gt 53, 3) := by decide +kernel
theorem dX11_dare_30 : decode cX11_dare 30 = .ok (.aload_n 0, 1) := by decide +kernel
theorem dX11_dare_31 : decode cX11_dare 31 = .ok (.getfield 46, 3) := by decide +kernel
theorem dX11_dare_34 : decode cX11_dare 34 = .ok (.getfield 104, 3) := by decide +kernel
theorem dX11_dare_37 : decode cX11_dare 37 = .ok (.iload_n 1, 1) := by decide +kernel
theorem dX11_dare_38 : decode cX11_dare 38 = .ok (.aaload, 1) := by decide +kernel
theorem dX11_dare_39 : decode cX11_dare 39 = .ok (.iload_n 3, 1) := by decide +kernel
theorem dX11_dare_40 : decode cX11_dare 40 = .ok (.iload 4, 2) := by decide +kernel
theorem dX11_dare_42 : decode cX11_dare 42 = .ok (.invokestatic 259, 3) := by decide +kernel
theorem dX11_dare_45 : decode cX11_dare 45 = .ok (.ifCond .eq 29, 3) := by decide +kernel
theorem dX11_dare_48 : decode cX11_dare 48 = .ok (.aload_n 0, 1) := by decide +kernel
theorem dX11_dare_49 : decode cX11_dare 49 = .ok (.getfield 46, 3) := by decide +kernel
theorem dX11_dare_52 : decode cX11_dare 52 = .ok (.getfield 104, 3) := by decide +kernel
theorem dX11_dare_55 : decode cX11_dare 55 = .ok (.iload_n 2, 1) := by decide +kernel
theorem dX11_dare_56 : decode cX11_dare 56 = .ok (.aaload, 1) := by decide +kernel
theorem dX11_dare_57 : decode cX11_dare 57 = .ok (.iload 4, 2) := by decide +kernel
theorem dX11_dare_59 : decode cX11_dare 59 = .ok (.iload_n 3, 1) := by decide +kernel
theorem dX11_dare_60 : decode cX11_dare 60 = .ok (.invokestatic 259, 3) := by decide +kernel
theorem dX11_dare_63 : decode cX11_dare 63 = .ok (.ifCond .eq 11, 3) := by decide +kernel
theorem dX11_dare_66 : decode cX11_dare 66 = .ok (.bipush 10, 2) := by decide +kernel
theorem dX11_dare_68 : decode cX11_dare 68 = .ok (.iload_n 3, 1) := by decide +kernel
theorem dX11_dare_69 : decode cX11_dare 69 = .ok (.imul, 1) := by decide +kernel
theorem dX11_dare_70 : decode cX11_dare 70 = .ok (.iload 4, 2) := by decide +kernel
theorem dX11_dare_72 : decode cX11_dare 72 = .ok (.iadd, 1) := by decide +kernel
theorem dX11_dare_73 : decode cX11_dare 73 = .ok (.ireturn, 1) := by decide +kernel
theorem dX11_dare_74 : decode cX11_dare 74 = .ok (.iinc 4 1, 3) := by decide +kernel
theorem dX11_dare_77 : decode cX11_dare 77 = .ok (.goto (-53), 3) := by decide +kernel
theorem dX11_dare_80 : decode cX11_dare 80 = .ok (.iinc 3 1, 3) := by decide +kernel
theorem dX11_dare_83 : decode cX11_dare 83 = .ok (.goto (-67), 3) := by decide +kernel
theorem dX11_dare_86 : decode cX11_dare 86 = .ok (.bipush (-4), 2) := by decide +kernel
theorem dX11_dare_88 : decode cX11_dare 88 = .ok (.ireturn, 1) := by decide +kernel
theorem dX11_group_0 : decode cX11_group 0 = .ok (.iload_n 1, 1) := by decide +kernel
theorem dX11_group_1 : decode cX11_group 1 = .ok (.iconst 0, 1) := by decide +kernel
theorem dX11_group_2 : decode cX11_group 2 = .ok (.bipush 30, 2) := by decide +kernel
theorem dX11_group_4 : decode cX11_group 4 = .ok (.invokestatic 145, 3) := by decide +kernel
theorem dX11_group_7 : decode cX11_group 7 = .ok (.ifCond .eq 12, 3) := by decide +kernel
theorem dX11_group_10 : decode cX11_group 10 = .ok (.iload_n 2, 1) := by decide +kernel
theorem dX11_group_11 : decode cX11_group 11 = .ok (.iconst 0, 1) := by decide +kernel
theorem dX11_group_12 : decode cX11_group 12 = .ok (.iconst 1, 1) := by decide +kernel
theorem dX11_group_13 : decode cX11_group 13 = .ok (.invokestatic 145, 3) := by decide +kernel
theorem dX11_group_16 : decode cX11_group 16 = .ok (.ifCond .ne 5, 3) := by decide +kernel
theorem dX11_group_19 : decode cX11_group 19 = .ok (.iconst (-1), 1) := by decide +kernel
theorem dX11_group_20 : decode cX11_group 20 = .ok (.ireturn, 1) := by decide +kernel
theorem dX11_group_21 : decode cX11_group 21 = .ok (.iconst 0, 1) := by decide +kernel
theorem dX11_group_22 : decode cX11_group 22 = .ok (.istore_n 3, 1) := by decide +kernel
theorem dX11_group_23 : decode cX11_group 23 = .ok (.iconst 1, 1) := by decide +kernel
theorem dX11_group_24 : decode cX11_group 24 = .ok (.istore 4, 2) := by decide +kernel
theorem dX11_group_26 : decode cX11_group 26 = .ok (.iload 4, 2) := by decide +kernel
theorem dX11_group_28 : decode cX11_group 28 = .ok (.iconst 1, 1) := by decide +kernel
theorem dX11_group_29 : decode cX11_group 29 = .ok (.aload_n 0, 1) := by decide +kernel
theorem dX11_group_30 : decode cX11_group 30 = .ok (.getfield 46, 3) := by decide +kernel
theorem dX11_group_33 : decode cX11_group 33 = .ok (.getfield 161, 3) := by decide +kernel
theorem dX11_group_36 : decode cX11_group 36 = .ok (.ishl, 1) := by decide +kernel
theorem dX11_group_37 : decode cX11_group 37 = .ok (.if_icmp .ge 37, 3) := by decide +kernel
theorem dX11_group_40 : decode cX11_group 40 = .ok (.iload 4, 2) := by decide +kernel
theorem dX11_group_42 : decode cX11_group 42 = .ok (.invokestatic 209, 3) := by decide +kernel
theorem dX11_group_45 : decode cX11_group 45 = .ok (.iload_n 3, 1) := by decide +kernel
theorem dX11_group_46 : decode cX11_group 46 = .ok (.invokestatic 209, 3) := by decide +kernel
theorem dX11_group_49 : decode cX11_group 49 = .ok (.if_icmp .le 19, 3) := by decide +kernel
theorem dX11_group_52 : decode cX11_group 52 = .ok (.aload_n 0, 1) := by decide +kernel
theorem dX11_group_53 : decode cX11_group 53 = .ok (.getfield 46, 3) := by decide +kernel
theorem dX11_group_56 : decode cX11_group 56 = .ok (.iload 4, 2) := by decide +kernel
theorem dX11_group_58 : decode cX11_group 58 = .ok (.invokevirtual 263, 3) := by decide +kernel
theorem dX11_group_61 : decode cX11_group 61 = .ok (.iload_n 1, 1) := by decide +kernel
theorem dX11_group_62 : decode cX11_group 62 = .ok (.if_icmp .gt 6, 3) := by decide +kernel
theorem dX11_group_65 : decode cX11_group 65 = .ok (.iload 4, 2) := by decide +kernel
theorem dX11_group_67 : decode cX11_group 67 = .ok (.istore_n 3, 1) := by decide +kernel
theorem dX11_group_68 : decode cX11_group 68 = .ok (.iinc 4 1, 3) := by decide +kernel
theorem dX11_group_71 : decode cX11_group 71 = .ok (.goto (-45), 3) := by decide +kernel
theorem dX11_group_74 : decode cX11_group 74 = .ok (.iload_n 2, 1) := by decide +kernel
theorem dX11_group_75 : decode cX11_group 75 = .ok (.ifCond .ne 7, 3) := by decide +kernel
theorem dX11_group_78 : decode cX11_group 78 = .ok (.iload_n 3, 1) := by decide +kernel
theorem dX11_group_79 : decode cX11_group 79 = .ok (.goto 7, 3) := by decide +kernel
theorem dX11_group_82 : decode cX11_group 82 = .ok (.iload_n 3, 1) := by decide +kernel
theorem dX11_group_83 : decode cX11_group 83 = .ok (.invokestatic 209, 3) := by decide +kernel
theorem dX11_group_86 : decode cX11_group 86 = .ok (.ireturn, 1) := by decide +kernel
theorem dX11_forget_0 : decode cX11_forget 0 = .ok (.iconst 0, 1) := by decide +kernel
theorem dX11_forget_1 : decode cX11_forget 1 = .ok (.istore_n 1, 1) := by decide +kernel
theorem dX11_forget_2 : decode cX11_forget 2 = .ok (.iload_n 1, 1) := by decide +kernel
theorem dX11_forget_3 : decode cX11_forget 3 = .ok (.bipush 9, 2) := by decide +kernel
theorem dX11_forget_5 : decode cX11_forget 5 = .ok (.if_icmp .gt 28, 3) := by decide +kernel
theorem dX11_forget_8 : decode cX11_forget 8 = .ok (.aload_n 0, 1) := by decide +kernel
theorem dX11_forget_9 : decode cX11_forget 9 = .ok (.invokevirtual 79, 3) := by decide +kernel
theorem dX11_forget_12 : decode cX11_forget 12 = .ok (.astore_n 2, 1) := by decide +kernel
theorem dX11_forget_13 : decode cX11_forget 13 = .ok (.aload_n 2, 1) := by decide +kernel
theorem dX11_forget_14 : decode cX11_forget 14 = .ok (.iload_n 1, 1) := by decide +kernel
theorem dX11_forget_15 : decode cX11_forget 15 = .ok (.invokevirtual 180, 3) := by decide +kernel
theorem dX11_forget_18 : decode cX11_forget 18 = .ok (.aload_n 2, 1) := by decide +kernel
theorem dX11_forget_19 : decode cX11_forget 19 = .ok (.invokevirtual 186, 3) := by decide +kernel
theorem dX11_forget_22 : decode cX11_forget 22 = .ok (.ifCond .ne 5, 3) := by decide +kernel
theorem dX11_forget_25 : decode cX11_forget 25 = .ok (.iload_n 1, 1) := by decide +kernel
theorem dX11_forget_26 : decode cX11_forget 26 = .ok (.ireturn, 1) := by decide +kernel
theorem dX11_forget_27 : decode cX11_forget 27 = .ok (.iinc 1 1, 3) := by decide +kernel
theorem dX11_forget_30 : decode cX11_forget 30 = .ok (.goto (-28), 3) := by decide +kernel
theorem dX11_forget_33 : decode cX11_forget 33 = .ok (.bipush (-4), 2) := by decide +kernel
theorem dX11_forget_35 : decode cX11_forget 35 = .ok (.ireturn, 1) := by decide +kernel
theorem dX11_coldest_0 : decode cX11_coldest 0 = .ok (.aload_n 0, 1) := by decide +kernel
theorem dX11_coldest_1 : decode cX11_coldest 1 = .ok (.getfield 46, 3) := by decide +kernel
theorem dX11_coldest_4 : decode cX11_coldest 4 = .ok (.iload_n 1, 1) := by decide +kernel
theorem dX11_coldest_5 : decode cX11_coldest 5 = .ok (.invokevirtual 100, 3) := by decide +kernel
theorem dX11_coldest_8 : decode cX11_coldest 8 = .ok (.ifCond .eq 13, 3) := by decide +kernel
theorem dX11_coldest_11 : decode cX11_coldest 11 = .ok (.iload_n 2, 1) := by decide +kernel
theorem dX11_coldest_12 : decode cX11_coldest 12 = .ok (.iconst 0, 1) := by decide +kernel
theorem dX11_coldest_13 : decode cX11_coldest 13 = .ok (.bipush 60, 2) := by decide +kernel
theorem dX11_coldest_15 : decode cX11_coldest 15 = .ok (.invokestatic 145, 3) := by decide +kernel
theorem dX11_coldest_18 : decode cX11_coldest 18 = .ok (.ifCond .ne 5, 3) := by decide +kernel
theorem dX11_coldest_21 : decode cX11_coldest 21 = .ok (.iconst (-1), 1) := by decide +kernel
theorem dX11_coldest_22 : decode cX11_coldest 22 = .ok (.ireturn, 1) := by decide +kernel
theorem dX11_coldest_23 : decode cX11_coldest 23 = .ok (.iconst 0, 1) := by decide +kernel
theorem dX11_coldest_24 : decode cX11_coldest 24 = .ok (.istore_n 3, 1) := by decide +kernel
theorem dX11_coldest_25 : decode cX11_coldest 25 = .ok (.iconst 0, 1) := by decide +kernel
theorem dX11_coldest_26 : decode cX11_coldest 26 = .ok (.istore 4, 2) := by decide +kernel
theorem dX11_coldest_28 : decode cX11_coldest 28 = .ok (.iload 4, 2) := by decide +kernel
theorem dX11_coldest_30 : decode cX11_coldest 30 = .ok (.aload_n 0, 1) := by decide +kernel
theorem dX11_coldest_31 : decode cX11_coldest 31 = .ok (.getfield 46, 3) := by decide +kernel
theorem dX11_coldest_34 : decode cX11_coldest 34 = .ok (.getfield 161, 3) := by decide +kernel
theorem dX11_coldest_37 : decode cX11_coldest 37 = .ok (.if_icmp .ge 61, 3) := by decide +kernel
theorem dX11_coldest_40 : decode cX11_coldest 40 = .ok (.aload_n 0, 1) := by decide +kernel
theorem dX11_coldest_41 : decode cX11_coldest 41 = .ok (.getfield 46, 3) := by decide +kernel
theorem dX11_coldest_44 : decode cX11_coldest 44 = .ok (.getfield 104, 3) := by decide +kernel
theorem dX11_coldest_47 : decode cX11_coldest 47 = .ok (.iload 4, 2) := by decide +kernel
theorem dX11_coldest_49 : decode cX11_coldest 49 = .ok (.aaload, 1) := by decide +kernel
theorem dX11_coldest_50 : decode cX11_coldest 50 = .ok (.astore 5, 2) := by decide +kernel
theorem dX11_coldest_52 : decode cX11_coldest 52 = .ok (.iload 4, 2) := by decide +kernel
theorem dX11_coldest_54 : decode cX11_coldest 54 = .ok (.iload_n 1, 1) := by decide +kernel
theorem dX11_coldest_55 : decode cX11_coldest 55 = .ok (.if_icmp .eq 37, 3) := by decide +kernel
theorem dX11_coldest_58 : decode cX11_coldest 58 = .ok (.aload 5, 2) := by decide +kernel
theorem dX11_coldest_60 : decode cX11_coldest 60 = .ok (.invokevirtual 163, 3) := by decide +kernel
theorem dX11_coldest_63 : decode cX11_coldest 63 = .ok (.ifCond .ne 29, 3) := by decide +kernel
theorem dX11_coldest_66 : decode cX11_coldest 66 = .ok (.bipush 20, 2) := by decide +kernel
theorem dX11_coldest_68 : decode cX11_coldest 68 = .ok (.aload 5, 2) := by decide +kernel
theorem dX11_coldest_70 : decode cX11_coldest 70 = .ok (.getfield 124, 3) := by decide +kernel
theorem dX11_coldest_73 : decode cX11_coldest 73 = .ok (.iload_n 2, 1) := by decide +kernel
theorem dX11_coldest_74 : decode cX11_coldest 74 = .ok (.iadd, 1) := by decide +kernel
theorem dX11_coldest_75 : decode cX11_coldest 75 = .ok (.invokestatic 238, 3) := by decide +kernel
theorem dX11_coldest_78 : decode cX11_coldest 78 = .ok (.aload 5, 2) := by decide +kernel
theorem dX11_coldest_80 : decode cX11_coldest 80 = .ok (.getfield 108, 3) := by decide +kernel
theorem dX11_coldest_83 : decode cX11_coldest 83 = .ok (.getfield 136, 3) := by decide +kernel
theorem dX11_coldest_86 : decode cX11_coldest 86 = .ok (.if_icmp .le 6, 3) := by decide +kernel
theorem dX11_coldest_89 : decode cX11_coldest 89 = .ok (.iinc 3 1, 3) := by decide +kernel
theorem dX11_coldest_92 : decode cX11_coldest 92 = .ok (.iinc 4 1, 3) := by decide +kernel
theorem dX11_coldest_95 : decode cX11_coldest 95 = .ok (.goto (-67), 3) := by decide +kernel
theorem dX11_coldest_98 : decode cX11_coldest 98 = .ok (.iload_n 3, 1) := by decide +kernel
theorem dX11_coldest_99 : decode cX11_coldest 99 = .ok (.ireturn, 1) := by decide +kernel
theorem dX11_last_0 : decode cX11_last 0 = .ok (.bipush (-4), 2) := by decide +kernel
theorem dX11_last_2 : decode cX11_last 2 = .ok (.istore_n 1, 1) := by decide +kernel
theorem dX11_last_3 : decode cX11_last 3 = .ok (.iconst 0, 1) := by decide +kernel
theorem dX11_last_4 : decode cX11_last 4 = .ok (.istore_n 2, 1) := by decide +kernel
theorem dX11_last_5 : decode cX11_last 5 = .ok (.iload_n 2, 1) := by decide +kernel
theorem dX11_last_6 : decode cX11_last 6 = .ok (.aload_n 0, 1) := by decide +kernel
theorem dX11_last_7 : decode cX11_last 7 = .ok (.getfield 46, 3) := by decide +kernel
theorem dX11_last_10 : decode cX11_last 10 = .ok (.getfield 161, 3) := by decide +kernel
theorem dX11_last_13 : decode cX11_last 13 = .ok (.if_icmp .ge 41, 3) := by decide +kernel
theorem dX11_last_16 : decode cX11_last 16 = .ok (.iload_n 1, 1) := by decide +kernel
theorem dX11_last_17 : decode cX11_last 17 = .ok (.bipush (-4), 2) := by decide +kernel
theorem dX11_last_19 : decode cX11_last 19 = .ok (.if_icmp .eq 27, 3) := by decide +kernel
theorem dX11_last_22 : decode cX11_last 22 = .ok (.aload_n 0, 1) := by decide +kernel
theorem dX11_last_23 : decode cX11_last 23 = .ok (.getfield 46, 3) := by decide +kernel
theorem dX11_last_26 : decode cX11_last 26 = .ok (.getfield 104, 3) := by decide +kernel
theorem dX11_last_29 : decode cX11_last 29 = .ok (.iload_n 2, 1) := by decide +kernel
theorem dX11_last_30 : decode cX11_last 30 = .ok (.aaload, 1) := by decide +kernel
theorem dX11_last_31 : decode cX11_last 31 = .ok (.aload_n 0, 1) := by decide +kernel
theorem dX11_last_32 : decode cX11_last 32 = .ok (.getfield 46, 3) := by decide +kernel
theorem dX11_last_35 : decode cX11_last 35 = .ok (.getfield 104, 3) := by decide +kernel
theorem dX11_last_38 : decode cX11_last 38 = .ok (.iload_n 1, 1) := by decide +kernel
theorem dX11_last_39 : decode cX11_last 39 = .ok (.aaload, 1) := by decide +kernel
theorem dX11_last_40 : decode cX11_last 40 = .ok (.invokevirtual 266, 3) := by decide +kernel
theorem dX11_last_43 : decode cX11_last 43 = .ok (.ifCond .eq 5, 3) := by decide +kernel
theorem dX11_last_46 : decode cX11_last 46 = .ok (.iload_n 2, 1) := by decide +kernel
theorem dX11_last_47 : decode cX11_last 47 = .ok (.istore_n 1, 1) := by decide +kernel
theorem dX11_last_48 : decode cX11_last 48 = .ok (.iinc 2 1, 3) := by decide +kernel
theorem dX11_last_51 : decode cX11_last 51 = .ok (.goto (-46), 3) := by decide +kernel
theorem dX11_last_54 : decode cX11_last 54 = .ok (.iload_n 1, 1) := by decide +kernel
theorem dX11_last_55 : decode cX11_last 55 = .ok (.ireturn, 1) := by decide +kernel
theorem dX11_mean_0 : decode cX11_mean 0 = .ok (.iload_n 1, 1) := by decide +kernel
theorem dX11_mean_1 : decode cX11_mean 1 = .ok (.iconst 0, 1) := by decide +kernel
theorem dX11_mean_2 : decode cX11_mean 2 = .ok (.iconst 1, 1) := by decide +kernel
theorem dX11_mean_3 : decode cX11_mean 3 = .ok (.invokestatic 145, 3) := by decide +kernel
theorem dX11_mean_6 : decode cX11_mean 6 = .ok (.ifCond .ne 7, 3) := by decide +kernel
theorem dX11_mean_9 : decode cX11_mean 9 = .ok (.ldc2_w 241, 3) := by decide +kernel
theorem dX11_mean_12 : decode cX11_mean 12 = .ok (.lreturn, 1) := by decide +kernel
theorem dX11_mean_13 : decode cX11_mean 13 = .ok (.aload_n 0, 1) := by decide +kernel
theorem dX11_mean_14 : decode cX11_mean 14 = .ok (.getfield 46, 3) := by decide +kernel
theorem dX11_mean_17 : decode cX11_mean 17 = .ok (.invokevirtual 183, 3) := by decide +kernel
theorem dX11_mean_20 : decode cX11_mean 20 = .ok (.i2l, 1) := by decide +kernel
theorem dX11_mean_21 : decode cX11_mean 21 = .ok (.iconst 1, 1) := by decide +kernel
theorem dX11_mean_22 : decode cX11_mean 22 = .ok (.aload_n 0, 1) := by decide +kernel
theorem dX11_mean_23 : decode cX11_mean 23 = .ok (.getfield 46, 3) := by decide +kernel
theorem dX11_mean_26 : decode cX11_mean 26 = .ok (.getfield 161, 3) := by decide +kernel
theorem dX11_mean_29 : decode cX11_mean 29 = .ok (.invokestatic 233, 3) := by decide +kernel
theorem dX11_mean_32 : decode cX11_mean 32 = .ok (.i2l, 1) := by decide +kernel
theorem dX11_mean_33 : decode cX11_mean 33 = .ok (.iload_n 1, 1) := by decide +kernel
theorem dX11_mean_34 : decode cX11_mean 34 = .ok (.invokestatic 247, 3) := by decide +kernel
theorem dX11_mean_37 : decode cX11_mean 37 = .ok (.lreturn, 1) := by decide +kernel
theorem dX11_forged_0 : decode cX11_forged 0 = .ok (.aload_n 0, 1) := by decide +kernel
theorem dX11_forged_1 : decode cX11_forged 1 = .ok (.iload_n 1, 1) := by decide +kernel
theorem dX11_forged_2 : decode cX11_forged 2 = .ok (.invokevirtual 63, 3) := by decide +kernel
theorem dX11_forged_5 : decode cX11_forged 5 = .ok (.astore_n 2, 1) := by decide +kernel
theorem dX11_forged_6 : decode cX11_forged 6 = .ok (.aload_n 2, 1) := by decide +kernel
theorem dX11_forged_7 : decode cX11_forged 7 = .ok (.ifnonnull 9, 3) := by decide +kernel
theorem dX11_forged_10 : decode cX11_forged 10 = .ok (.aload_n 0, 1) := by decide +kernel
theorem dX11_forged_11 : decode cX11_forged 11 = .ok (.iload_n 1, 1) := by decide +kernel
theorem dX11_forged_12 : decode cX11_forged 12 = .ok (.invokevirtual 67, 3) := by decide +kernel
theorem dX11_forged_15 : decode cX11_forged 15 = .ok (.ireturn, 1) := by decide +kernel
theorem dX11_forged_16 : decode cX11_forged 16 = .ok (.aload_n 2, 1) := by decide +kernel
theorem dX11_forged_17 : decode cX11_forged 17 = .ok (.invokevirtual 83, 3) := by decide +kernel
theorem dX11_forged_20 : decode cX11_forged 20 = .ok (.iconst 2, 1) := by decide +kernel
theorem dX11_forged_21 : decode cX11_forged 21 = .ok (.irem, 1) := by decide +kernel
theorem dX11_forged_22 : decode cX11_forged 22 = .ok (.ifCond .eq 6, 3) := by decide +kernel
theorem dX11_forged_25 : decode cX11_forged 25 = .ok (.bipush (-13), 2) := by decide +kernel
theorem dX11_forged_27 : decode cX11_forged 27 = .ok (.ireturn, 1) := by decide +kernel
theorem dX11_forged_28 : decode cX11_forged 28 = .ok (.aload_n 0, 1) := by decide +kernel
theorem dX11_forged_29 : decode cX11_forged 29 = .ok (.invokevirtual 79, 3) := by decide +kernel
theorem dX11_forged_32 : decode cX11_forged 32 = .ok (.astore_n 3, 1) := by decide +kernel
theorem dX11_forged_33 : decode cX11_forged 33 = .ok (.iconst 0, 1) := by decide +kernel
theorem dX11_forged_34 : decode cX11_forged 34 = .ok (.istore 4, 2) := by decide +kernel
theorem dX11_forged_36 : decode cX11_forged 36 = .ok (.iload 4, 2) := by decide +kernel
theorem dX11_forged_38 : decode cX11_forged 38 = .ok (.aload_n 2, 1) := by decide +kernel
theorem dX11_forged_39 : decode cX11_forged 39 = .ok (.invokevirtual 83, 3) := by decide +kernel
theorem dX11_forged_42 : decode cX11_forged 42 = .ok (.iconst 2, 1) := by decide +kernel
theorem dX11_forged_43 : decode cX11_forged 43 = .ok (.idiv, 1) := by decide +kernel
theorem dX11_forged_44 : decode cX11_forged 44 = .ok (.if_icmp .ge 54, 3) := by decide +kernel
theorem dX11_forged_47 : decode cX11_forged 47 = .ok (.aload_n 2, 1) := by decide +kernel
theorem dX11_forged_48 : decode cX11_forged 48 = .ok (.iconst 2, 1) := by decide +kernel
theorem dX11_forged_49 : decode cX11_forged 49 = .ok (.iload 4, 2) := by decide +kernel
theorem dX11_forged_51 : decode cX11_forged 51 = .ok (.imul, 1) := by decide +kernel
theorem dX11_forged_52 : decode cX11_forged 52 = .ok (.invokevirtual 90, 3) := by decide +kernel
theorem dX11_forged_55 : decode cX11_forged 55 = .ok (.istore 5, 2) := by decide +kernel
theorem dX11_forged_57 : decode cX11_forged 57 = .ok (.aload_n 2, 1) := by decide +kernel
theorem dX11_forged_58 : decode cX11_forged 58 = .ok (.iconst 2, 1) := by decide +kernel
theorem dX11_forged_59 : decode cX11_forged 59 = .ok (.iload 4, 2) := by decide +kernel
theorem dX11_forged_61 : decode cX11_forged 61 = .ok (.imul, 1) := by decide +kernel
theorem dX11_forged_62 : decode cX11_forged 62 = .ok (.iconst 1, 1) := by decide +kernel
theorem dX11_forged_63 : decode cX11_forged 63 = .ok (.iadd, 1) := by decide +kernel
theorem dX11_forged_64 : decode cX11_forged 64 = .ok (.invokevirtual 90, 3) := by decide +kernel
theorem dX11_forged_67 : decode cX11_forged 67 = .ok (.istore 6, 2) := by decide +kernel
theorem dX11_forged_69 : decode cX11_forged 69 = .ok (.aload_n 3, 1) := by decide +kernel
theorem dX11_forged_70 : decode cX11_forged 70 = .ok (.iload 5, 2) := by decide +kernel
theorem dX11_forged_72 : decode cX11_forged 72 = .ok (.iload 6, 2) := by decide +kernel
theorem dX11_forged_74 : decode cX11_forged 74 = .ok (.invokevirtual 270, 3) := by decide +kernel
theorem dX11_forged_77 : decode cX11_forged 77 = .ok (.ifCond .ne 6, 3) := by decide +kernel
theorem dX11_forged_80 : decode cX11_forged 80 = .ok (.iload 4, 2) := by decide +kernel
theorem dX11_forged_82 : decode cX11_forged 82 = .ok (.ireturn, 1) := by decide +kernel
theorem dX11_forged_83 : decode cX11_forged 83 = .ok (.aload_n 3, 1) := by decide +kernel
theorem dX11_forged_84 : decode cX11_forged 84 = .ok (.iload 5, 2) := by decide +kernel
theorem dX11_forged_86 : decode cX11_forged 86 = .ok (.iload 6, 2) := by decide +kernel
theorem dX11_forged_88 : decode cX11_forged 88 = .ok (.invokevirtual 169, 3) := by decide +kernel
theorem dX11_forged_91 : decode cX11_forged 91 = .ok (.pop, 1) := by decide +kernel
theorem dX11_forged_92 : decode cX11_forged 92 = .ok (.iinc 4 1, 3) := by decide +kernel
theorem dX11_forged_95 : decode cX11_forged 95 = .ok (.goto (-59), 3) := by decide +kernel
theorem dX11_forged_98 : decode cX11_forged 98 = .ok (.bipush (-4), 2) := by decide +kernel
theorem dX11_forged_100 : decode cX11_forged 100 = .ok (.ireturn, 1) := by decide +kernel
theorem dX11_judge_0 : decode cX11_judge 0 = .ok (.iload_n 1, 1) := by decide +kernel
theorem dX11_judge_1 : decode cX11_judge 1 = .ok (.invokestatic 142, 3) := by decide +kernel
theorem dX11_judge_4 : decode cX11_judge 4 = .ok (.ifCond .eq 14, 3) := by decide +kernel
theorem dX11_judge_7 : decode cX11_judge 7 = .ok (.aload_n 0, 1) := by decide +kernel
theorem dX11_judge_8 : decode cX11_judge 8 = .ok (.getfield 46, 3) := by decide +kernel
theorem dX11_judge_11 : decode cX11_judge 11 = .ok (.iload_n 2, 1) := by decide +kernel
theorem dX11_judge_12 : decode cX11_judge 12 = .ok (.invokevirtual 100, 3) := by decide +kernel
theorem dX11_judge_15 : decode cX11_judge 15 = .ok (.ifCond .ne 5, 3) := by decide +kernel
theorem dX11_judge_18 : decode cX11_judge 18 = .ok (.iconst (-1), 1) := by decide +kernel
theorem dX11_judge_19 : decode cX11_judge 19 = .ok (.ireturn, 1) := by decide +kernel
theorem dX11_judge_20 : decode cX11_judge 20 = .ok (.aload_n 0, 1) := by decide +kernel
theorem dX11_judge_21 : decode cX11_judge 21 = .ok (.iload_n 1, 1) := by decide +kernel
theorem dX11_judge_22 : decode cX11_judge 22 = .ok (.invokevirtual 63, 3) := by decide +kernel
theorem dX11_judge_25 : decode cX11_judge 25 = .ok (.astore_n 3, 1) := by decide +kernel
theorem dX11_judge_26 : decode cX11_judge 26 = .ok (.aload_n 3, 1) := by decide +kernel
theorem dX11_judge_27 : decode cX11_judge 27 = .ok (.ifnonnull 9, 3) := by decide +kernel
theorem dX11_judge_30 : decode cX11_judge 30 = .ok (.aload_n 0, 1) := by decide +kernel
theorem dX11_judge_31 : decode cX11_judge 31 = .ok (.iload_n 1, 1) := by decide +kernel
theorem dX11_judge_32 : decode cX11_judge 32 = .ok (.invokevirtual 67, 3) := by decide +kernel
theorem dX11_judge_35 : decode cX11_judge 35 = .ok (.ireturn, 1) := by decide +kernel
theorem dX11_judge_36 : decode cX11_judge 36 = .ok (.aload_n 0, 1) := by decide +kernel
theorem dX11_judge_37 : decode cX11_judge 37 = .ok (.invokevirtual 79, 3) := by decide +kernel
theorem dX11_judge_40 : decode cX11_judge 40 = .ok (.astore 4, 2) := by decide +kernel
theorem dX11_judge_42 : decode cX11_judge 42 = .ok (.iconst 0, 1) := by decide +kernel
theorem dX11_judge_43 : decode cX11_judge 43 = .ok (.istore 5, 2) := by decide +kernel
theorem dX11_judge_45 : decode cX11_judge 45 = .ok (.iload 5, 2) := by decide +kernel
theorem dX11_judge_47 : decode cX11_judge 47 = .ok (.aload_n 3, 1) := by decide +kernel
theorem dX11_judge_48 : decode cX11_judge 48 = .ok (.invokevirtual 83, 3) := by decide +kernel
theorem dX11_judge_51 : decode cX11_judge 51 = .ok (.if_icmp .ge 50, 3) := by decide +kernel
theorem dX11_judge_54 : decode cX11_judge 54 = .ok (.aload_n 3, 1) := by decide +kernel
theorem dX11_judge_55 : decode cX11_judge 55 = .ok (.iload 5, 2) := by decide +kernel
theorem dX11_judge_57 : decode cX11_judge 57 = .ok (.invokevirtual 90, 3) := by decide +kernel
theorem dX11_judge_60 : decode cX11_judge 60 = .ok (.aload_n 3, 1) := by decide +kernel
theorem dX11_judge_61 : decode cX11_judge 61 = .ok (.invokevirtual 273, 3) := by decide +kernel
theorem dX11_judge_64 : decode cX11_judge 64 = .ok (.if_icmp .eq 25, 3) := by decide +kernel
theorem dX11_judge_67 : decode cX11_judge 67 = .ok (.aload_n 3, 1) := by decide +kernel
theorem dX11_judge_68 : decode cX11_judge 68 = .ok (.iload 5, 2) := by decide +kernel
theorem dX11_judge_70 : decode cX11_judge 70 = .ok (.invokevirtual 90, 3) := by decide +kernel
theorem dX11_judge_73 : decode cX11_judge 73 = .ok (.aload 4, 2) := by decide +kernel
theorem dX11_judge_75 : decode cX11_judge 75 = .ok (.getfield 104, 3) := by decide +kernel
theorem dX11_judge_78 : decode cX11_judge 78 = .ok (.iload_n 2, 1) := by decide +kernel
theorem dX11_judge_79 : decode cX11_judge 79 = .ok (.aaload, 1) := by decide +kernel
theorem dX11_judge_80 : decode cX11_judge 80 = .ok (.getfield 118, 3) := by decide +kernel
theorem dX11_judge_83 : decode cX11_judge 83 = .ok (.if_icmp .eq 6, 3) := by decide +kernel
theorem dX11_judge_86 : decode cX11_judge 86 = .ok (.iload 5, 2) := by decide +kernel
theorem dX11_judge_88 : decode cX11_judge 88 = .ok (.ireturn, 1) := by decide +kernel
theorem dX11_judge_89 : decode cX11_judge 89 = .ok (.aload 4, 2) := by decide +kernel
theorem dX11_judge_91 : decode cX11_judge 91 = .ok (.invokevirtual 203, 3) := by decide +kernel
theorem dX11_judge_94 : decode cX11_judge 94 = .ok (.pop, 1) := by decide +kernel
theorem dX11_judge_95 : decode cX11_judge 95 = .ok (.iinc 5 1, 3) := by decide +kernel
theorem dX11_judge_98 : decode cX11_judge 98 = .ok (.goto (-53), 3) := by decide +kernel
theorem dX11_judge_101 : decode cX11_judge 101 = .ok (.bipush (-4), 2) := by decide +kernel
theorem dX11_judge_103 : decode cX11_judge 103 = .ok (.ireturn, 1) := by decide +kernel
theorem dX11_weeks_0 : decode cX11_weeks 0 = .ok (.iload_n 1, 1) := by decide +kernel
theorem dX11_weeks_1 : decode cX11_weeks 1 = .ok (.iconst 1, 1) := by decide +kernel
theorem dX11_weeks_2 : decode cX11_weeks 2 = .ok (.bipush 20, 2) := by decide +kernel
theorem dX11_weeks_4 : decode cX11_weeks 4 = .ok (.invokestatic 145, 3) := by decide +kernel
theorem dX11_weeks_7 : decode cX11_weeks 7 = .ok (.ifCond .eq 12, 3) := by decide +kernel
theorem dX11_weeks_10 : decode cX11_weeks 10 = .ok (.iload_n 3, 1) := by decide +kernel
theorem dX11_weeks_11 : decode cX11_weeks 11 = .ok (.iconst 0, 1) := by decide +kernel
theorem dX11_weeks_12 : decode cX11_weeks 12 = .ok (.iconst 1, 1) := by decide +kernel
theorem dX11_weeks_13 : decode cX11_weeks 13 = .ok (.invokestatic 145, 3) := by decide +kernel
theorem dX11_weeks_16 : decode cX11_weeks 16 = .ok (.ifCond .ne 5, 3) := by decide +kernel
theorem dX11_weeks_19 : decode cX11_weeks 19 = .ok (.iconst (-1), 1) := by decide +kernel
theorem dX11_weeks_20 : decode cX11_weeks 20 = .ok (.ireturn, 1) := by decide +kernel
theorem dX11_weeks_21 : decode cX11_weeks 21 = .ok (.aload_n 0, 1) := by decide +kernel
theorem dX11_weeks_22 : decode cX11_weeks 22 = .ok (.getfield 46, 3) := by decide +kernel
theorem dX11_weeks_25 : decode cX11_weeks 25 = .ok (.getfield 161, 3) := by decide +kernel
theorem dX11_weeks_28 : decode cX11_weeks 28 = .ok (.ifCond .ne 6, 3) := by decide +kernel
theorem dX11_weeks_31 : decode cX11_weeks 31 = .ok (.bipush (-3), 2) := by decide +kernel
theorem dX11_weeks_33 : decode cX11_weeks 33 = .ok (.ireturn, 1) := by decide +kernel
theorem dX11_weeks_34 : decode cX11_weeks 34 = .ok (.iload_n 2, 1) := by decide +kernel
theorem dX11_weeks_35 : decode cX11_weeks 35 = .ok (.istore 4, 2) := by decide +kernel
theorem dX11_weeks_37 : decode cX11_weeks 37 = .ok (.iconst 0, 1) := by decide +kernel
theorem dX11_weeks_38 : decode cX11_weeks 38 = .ok (.istore 5, 2) := by decide +kernel
theorem dX11_weeks_40 : decode cX11_weeks 40 = .ok (.iconst 0, 1) := by decide +kernel
theorem dX11_weeks_41 : decode cX11_weeks 41 = .ok (.istore 6, 2) := by decide +kernel
theorem dX11_weeks_43 : decode cX11_weeks 43 = .ok (.iconst 0, 1) := by decide +kernel
theorem dX11_weeks_44 : decode cX11_weeks 44 = .ok (.istore 7, 2) := by decide +kernel
theorem dX11_weeks_46 : decode cX11_weeks 46 = .ok (.iload 7, 2) := by decide +kernel
theorem dX11_weeks_48 : decode cX11_weeks 48 = .ok (.iload_n 1, 1) := by decide +kernel
theorem dX11_weeks_49 : decode cX11_weeks 49 = .ok (.if_icmp .ge 112, 3) := by decide +kernel
theorem dX11_weeks_52 : decode cX11_weeks 52 = .ok (.aload_n 0, 1) := by decide +kernel
theorem dX11_weeks_53 : decode cX11_weeks 53 = .ok (.invokevirtual 79, 3) := by decide +kernel
theorem dX11_weeks_56 : decode cX11_weeks 56 = .ok (.astore 8, 2) := by decide +kernel
theorem dX11_weeks_58 : decode cX11_weeks 58 = .ok (.iconst 0, 1) := by decide +kernel
theorem dX11_weeks_59 : decode cX11_weeks 59 = .ok (.istore 9, 2) := by decide +kernel
theorem dX11_weeks_61 : decode cX11_weeks 61 = .ok (.iload 9, 2) := by decide +kernel
theorem dX11_weeks_63 : decode cX11_weeks 63 = .ok (.bipush 10, 2) := by decide +kernel
theorem dX11_weeks_65 : decode cX11_weeks 65 = .ok (.if_icmp .ge 72, 3) := by decide +kernel
theorem dX11_weeks_68 : decode cX11_weeks 68 = .ok (.iload 4, 2) := by decide +kernel
theorem dX11_weeks_70 : decode cX11_weeks 70 = .ok (.invokestatic 276, 3) := by decide +kernel
theorem dX11_weeks_73 : decode cX11_weeks 73 = .ok (.istore 4, 2) := by decide +kernel
theorem dX11_weeks_75 : decode cX11_weeks 75 = .ok (.aload_n 0, 1) := by decide +kernel
theorem dX11_weeks_76 : decode cX11_weeks 76 = .ok (.getfield 46, 3) := by decide +kernel
theorem dX11_weeks_79 : decode cX11_weeks 79 = .ok (.getfield 161, 3) := by decide +kernel
theorem dX11_weeks_82 : decode cX11_weeks 82 = .ok (.iload 4, 2) := by decide +kernel
theorem dX11_weeks_84 : decode cX11_weeks 84 = .ok (.invokestatic 279, 3) := by decide +kernel
theorem dX11_weeks_87 : decode cX11_weeks 87 = .ok (.istore 10, 2) := by decide +kernel
theorem dX11_weeks_89 : decode cX11_weeks 89 = .ok (.iload 4, 2) := by decide +kernel
theorem dX11_weeks_91 : decode cX11_weeks 91 = .ok (.invokestatic 276, 3) := by decide +kernel
theorem dX11_weeks_94 : decode cX11_weeks 94 = .ok (.istore 4, 2) := by decide +kernel
theorem dX11_weeks_96 : decode cX11_weeks 96 = .ok (.iconst 4, 1) := by decide +kernel
theorem dX11_weeks_97 : decode cX11_weeks 97 = .ok (.iload 4, 2) := by decide +kernel
theorem dX11_weeks_99 : decode cX11_weeks 99 = .ok (.invokestatic 279, 3) := by decide +kernel
theorem dX11_weeks_102 : decode cX11_weeks 102 = .ok (.istore 11, 2) := by decide +kernel
theorem dX11_weeks_104 : decode cX11_weeks 104 = .ok (.aload 8, 2) := by decide +kernel
theorem dX11_weeks_106 : decode cX11_weeks 106 = .ok (.iload 10, 2) := by decide +kernel
theorem dX11_weeks_108 : decode cX11_weeks 108 = .ok (.iload 11, 2) := by decide +kernel
theorem dX11_weeks_110 : decode cX11_weeks 110 = .ok (.invokevirtual 270, 3) := by decide +kernel
theorem dX11_weeks_113 : decode cX11_weeks 113 = .ok (.ifCond .eq 18, 3) := by decide +kernel
theorem dX11_weeks_116 : decode cX11_weeks 116 = .ok (.aload 8, 2) := by decide +kernel
theorem dX11_weeks_118 : decode cX11_weeks 118 = .ok (.iload 10, 2) := by decide +kernel
theorem dX11_weeks_120 : decode cX11_weeks 120 = .ok (.iload 11, 2) := by decide +kernel
theorem dX11_weeks_122 : decode cX11_weeks 122 = .ok (.invokevirtual 169, 3) := by decide +kernel
theorem dX11_weeks_125 : decode cX11_weeks 125 = .ok (.ifCond .eq 6, 3) := by decide +kernel
theorem dX11_weeks_128 : decode cX11_weeks 128 = .ok (.iinc 6 1, 3) := by decide +kernel
theorem dX11_weeks_131 : decode cX11_weeks 131 = .ok (.iinc 9 1, 3) := by decide +kernel
theorem dX11_weeks_134 : decode cX11_weeks 134 = .ok (.goto (-73), 3) := by decide +kernel
theorem dX11_weeks_137 : decode cX11_weeks 137 = .ok (.iload 5, 2) := by decide +kernel
theorem dX11_weeks_139 : decode cX11_weeks 139 = .ok (.aload 8, 2) := by decide +kernel
theorem dX11_weeks_141 : decode cX11_weeks 141 = .ok (.invokevirtual 183, 3) := by decide +kernel
theorem dX11_weeks_144 : decode cX11_weeks 144 = .ok (.aload_n 0, 1) := by decide +kernel
theorem dX11_weeks_145 : decode cX11_weeks 145 = .ok (.getfield 46, 3) := by decide +kernel
theorem dX11_weeks_148 : decode cX11_weeks 148 = .ok (.invokevirtual 183, 3) := by decide +kernel
theorem dX11_weeks_151 : decode cX11_weeks 151 = .ok (.isub, 1) := by decide +kernel
theorem dX11_weeks_152 : decode cX11_weeks 152 = .ok (.iadd, 1) := by decide +kernel
theorem dX11_weeks_153 : decode cX11_weeks 153 = .ok (.istore 5, 2) := by decide +kernel
theorem dX11_weeks_155 : decode cX11_weeks 155 = .ok (.iinc 7 1, 3) := by decide +kernel
theorem dX11_weeks_158 : decode cX11_weeks 158 = .ok (.goto (-112), 3) := by decide +kernel
theorem dX11_weeks_161 : decode cX11_weeks 161 = .ok (.iload_n 3, 1) := by decide +kernel
theorem dX11_weeks_162 : decode cX11_weeks 162 = .ok (.ifCond .ne 8, 3) := by decide +kernel
theorem dX11_weeks_165 : decode cX11_weeks 165 = .ok (.iload 5, 2) := by decide +kernel
theorem dX11_weeks_167 : decode cX11_weeks 167 = .ok (.goto 5, 3) := by decide +kernel
theorem dX11_weeks_170 : decode cX11_weeks 170 = .ok (.iload 6, 2) := by decide +kernel
theorem dX11_weeks_172 : decode cX11_weeks 172 = .ok (.ireturn, 1) := by decide +kernel
theorem dX11_image_0 : decode cX11_image 0 = .ok (.aload_n 0, 1) := by decide +kernel
theorem dX11_image_1 : decode cX11_image 1 = .ok (.getfield 50, 3) := by decide +kernel
theorem dX11_image_4 : decode cX11_image 4 = .ok (.aload_n 0, 1) := by decide +kernel
theorem dX11_image_5 : decode cX11_image 5 = .ok (.getfield 46, 3) := by decide +kernel
theorem dX11_image_8 : decode cX11_image 8 = .ok (.invokevirtual 96, 3) := by decide +kernel
theorem dX11_image_11 : decode cX11_image 11 = .ok (.aload_n 0, 1) := by decide +kernel
theorem dX11_image_12 : decode cX11_image 12 = .ok (.iconst 1, 1) := by decide +kernel
theorem dX11_image_13 : decode cX11_image 13 = .ok (.putfield 282, 3) := by decide +kernel
theorem dX11_image_16 : decode cX11_image 16 = .ok (.aload_n 0, 1) := by decide +kernel
theorem dX11_image_17 : decode cX11_image 17 = .ok (.getfield 46, 3) := by decide +kernel
theorem dX11_image_20 : decode cX11_image 20 = .ok (.getfield 166, 3) := by decide +kernel
theorem dX11_image_23 : decode cX11_image 23 = .ok (.ireturn, 1) := by decide +kernel
theorem dX11_restore_0 : decode cX11_restore 0 = .ok (.aload_n 0, 1) := by decide +kernel
theorem dX11_restore_1 : decode cX11_restore 1 = .ok (.getfield 282, 3) := by decide +kernel
theorem dX11_restore_4 : decode cX11_restore 4 = .ok (.ifCond .ne 6, 3) := by decide +kernel
theorem dX11_restore_7 : decode cX11_restore 7 = .ok (.bipush (-3), 2) := by decide +kernel
theorem dX11_restore_9 : decode cX11_restore 9 = .ok (.ireturn, 1) := by decide +kernel
theorem dX11_restore_10 : decode cX11_restore 10 = .ok (.aload_n 0, 1) := by decide +kernel
theorem dX11_restore_11 : decode cX11_restore 11 = .ok (.getfield 46, 3) := by decide +kernel
theorem dX11_restore_14 : decode cX11_restore 14 = .ok (.aload_n 0, 1) := by decide +kernel
theorem dX11_restore_15 : decode cX11_restore 15 = .ok (.getfield 50, 3) := by decide +kernel
theorem dX11_restore_18 : decode cX11_restore 18 = .ok (.invokevirtual 96, 3) := by decide +kernel
theorem dX11_restore_21 : decode cX11_restore 21 = .ok (.aload_n 0, 1) := by decide +kernel
theorem dX11_restore_22 : decode cX11_restore 22 = .ok (.getfield 46, 3) := by decide +kernel
theorem dX11_restore_25 : decode cX11_restore 25 = .ok (.getfield 166, 3) := by decide +kernel
theorem dX11_restore_28 : decode cX11_restore 28 = .ok (.ireturn, 1) := by decide +kernel
theorem dX11_count_0 : decode cX11_count 0 = .ok (.iload_n 1, 1) := by decide +kernel
theorem dX11_count_1 : decode cX11_count 1 = .ok (.tableswitch 87 0 5 #[39, 47, 55, 63, 71, 79], 39) := by decide +kernel
theorem dX11_count_40 : decode cX11_count 40 = .ok (.aload_n 0, 1) := by decide +kernel
theorem dX11_count_41 : decode cX11_count 41 = .ok (.getfield 46, 3) := by decide +kernel
theorem dX11_count_44 : decode cX11_count 44 = .ok (.getfield 161, 3) := by decide +kernel
theorem dX11_count_47 : decode cX11_count 47 = .ok (.ireturn, 1) := by decide +kernel
theorem dX11_count_48 : decode cX11_count 48 = .ok (.aload_n 0, 1) := by decide +kernel
theorem dX11_count_49 : decode cX11_count 49 = .ok (.getfield 46, 3) := by decide +kernel
theorem dX11_count_52 : decode cX11_count 52 = .ok (.getfield 166, 3) := by decide +kernel
theorem dX11_count_55 : decode cX11_count 55 = .ok (.ireturn, 1) := by decide +kernel
theorem dX11_count_56 : decode cX11_count 56 = .ok (.aload_n 0, 1) := by decide +kernel
theorem dX11_count_57 : decode cX11_count 57 = .ok (.getfield 46, 3) := by decide +kernel
theorem dX11_count_60 : decode cX11_count 60 = .ok (.invokevirtual 286, 3) := by decide +kernel
theorem dX11_count_63 : decode cX11_count 63 = .ok (.ireturn, 1) := by decide +kernel
theorem dX11_count_64 : decode cX11_count 64 = .ok (.aload_n 0, 1) := by decide +kernel
theorem dX11_count_65 : decode cX11_count 65 = .ok (.getfield 46, 3) := by decide +kernel
theorem dX11_count_68 : decode cX11_count 68 = .ok (.invokevirtual 183, 3) := by decide +kernel
theorem dX11_count_71 : decode cX11_count 71 = .ok (.ireturn, 1) := by decide +kernel
theorem dX11_count_72 : decode cX11_count 72 = .ok (.aload_n 0, 1) := by decide +kernel
theorem dX11_count_73 : decode cX11_count 73 = .ok (.getfield 46, 3) := by decide +kernel
theorem dX11_count_76 : decode cX11_count 76 = .ok (.invokevirtual 289, 3) := by decide +kernel
theorem dX11_count_79 : decode cX11_count 79 = .ok (.ireturn, 1) := by decide +kernel
theorem dX11_count_80 : decode cX11_count 80 = .ok (.aload_n 0, 1) := by decide +kernel
theorem dX11_count_81 : decode cX11_count 81 = .ok (.getfield 46, 3) := by decide +kernel
theorem dX11_count_84 : decode cX11_count 84 = .ok (.invokevirtual 206, 3) := by decide +kernel
theorem dX11_count_87 : decode cX11_count 87 = .ok (.ireturn, 1) := by decide +kernel
theorem dX11_count_88 : decode cX11_count 88 = .ok (.iconst (-1), 1) := by decide +kernel
theorem dX11_count_89 : decode cX11_count 89 = .ok (.ireturn, 1) := by decide +kernel
theorem dX11_keep_0 : decode cX11_keep 0 = .ok (.iload_n 1, 1) := by decide +kernel
theorem dX11_keep_1 : decode cX11_keep 1 = .ok (.invokestatic 142, 3) := by decide +kernel
theorem dX11_keep_4 : decode cX11_keep 4 = .ok (.ifCond .eq 12, 3) := by decide +kernel
theorem dX11_keep_7 : decode cX11_keep 7 = .ok (.iload_n 2, 1) := by decide +kernel
theorem dX11_keep_8 : decode cX11_keep 8 = .ok (.iconst 0, 1) := by decide +kernel
theorem dX11_keep_9 : decode cX11_keep 9 = .ok (.iconst 1, 1) := by decide +kernel
theorem dX11_keep_10 : decode cX11_keep 10 = .ok (.invokestatic 145, 3) := by decide +kernel
theorem dX11_keep_13 : decode cX11_keep 13 = .ok (.ifCond .ne 5, 3) := by decide +kernel
theorem dX11_keep_16 : decode cX11_keep 16 = .ok (.iconst (-1), 1) := by decide +kernel
theorem dX11_keep_17 : decode cX11_keep 17 = .ok (.ireturn, 1) := by decide +kernel
theorem dX11_keep_18 : decode cX11_keep 18 = .ok (.iload_n 2, 1) := by decide +kernel
theorem dX11_keep_19 : decode cX11_keep 19 = .ok (.iconst 1, 1) := by decide +kernel
theorem dX11_keep_20 : decode cX11_keep 20 = .ok (.if_icmp .ne 26, 3) := by decide +kernel
theorem dX11_keep_23 : decode cX11_keep 23 = .ok (.iload_n 3, 1) := by decide +kernel
theorem dX11_keep_24 : decode cX11_keep 24 = .ok (.iconst 0, 1) := by decide +kernel
theorem dX11_keep_25 : decode cX11_keep 25 = .ok (.bipush 7, 2) := by decide +kernel
theorem dX11_keep_27 : decode cX11_keep 27 = .ok (.invokestatic 145, 3) := by decide +kernel
theorem dX11_keep_30 : decode cX11_keep 30 = .ok (.ifCond .eq 14, 3) := by decide +kernel
theorem dX11_keep_33 : decode cX11_keep 33 = .ok (.iload 4, 2) := by decide +kernel
theorem dX11_keep_35 : decode cX11_keep 35 = .ok (.iconst 0, 1) := by decide +kernel
theorem dX11_keep_36 : decode cX11_keep 36 = .ok (.bipush 9, 2) := by decide +kernel
theorem dX11_keep_38 : decode cX11_keep 38 = .ok (.invokestatic 145, 3) := by decide +kernel
theorem dX11_keep_41 : decode cX11_keep 41 = .ok (.ifCond .ne 5, 3) := by decide +kernel
theorem dX11_keep_44 : decode cX11_keep 44 = .ok (.iconst (-1), 1) := by decide +kernel
theorem dX11_keep_45 : decode cX11_keep 45 = .ok (.ireturn, 1) := by decide +kernel
theorem dX11_keep_46 : decode cX11_keep 46 = .ok (.aload_n 0, 1) := by decide +kernel
theorem dX11_keep_47 : decode cX11_keep 47 = .ok (.getfield 36, 3) := by decide +kernel
theorem dX11_keep_50 : decode cX11_keep 50 = .ok (.iload_n 1, 1) := by decide +kernel
theorem dX11_keep_51 : decode cX11_keep 51 = .ok (.aconst_null, 1) := by decide +kernel
theorem dX11_keep_52 : decode cX11_keep 52 = .ok (.aastore, 1) := by decide +kernel
theorem dX11_keep_53 : decode cX11_keep 53 = .ok (.aload_n 0, 1) := by decide +kernel
theorem dX11_keep_54 : decode cX11_keep 54 = .ok (.getfield 30, 3) := by decide +kernel
theorem dX11_keep_57 : decode cX11_keep 57 = .ok (.iload_n 1, 1) := by decide +kernel
theorem dX11_keep_58 : decode cX11_keep 58 = .ok (.iload_n 2, 1) := by decide +kernel
theorem dX11_keep_59 : decode cX11_keep 59 = .ok (.ifCond .ne 7, 3) := by decide +kernel
theorem dX11_keep_62 : decode cX11_keep 62 = .ok (.aconst_null, 1) := by decide +kernel
theorem dX11_keep_63 : decode cX11_keep 63 = .ok (.goto 9, 3) := by decide +kernel
theorem dX11_keep_66 : decode cX11_keep 66 = .ok (.iload_n 3, 1) := by decide +kernel
theorem dX11_keep_67 : decode cX11_keep 67 = .ok (.iload 4, 2) := by decide +kernel
theorem dX11_keep_69 : decode cX11_keep 69 = .ok (.invokestatic 251, 3) := by decide +kernel
theorem dX11_keep_72 : decode cX11_keep 72 = .ok (.aastore, 1) := by decide +kernel
theorem dX11_keep_73 : decode cX11_keep 73 = .ok (.iconst 0, 1) := by decide +kernel
theorem dX11_keep_74 : decode cX11_keep 74 = .ok (.ireturn, 1) := by decide +kernel
theorem dX11_row_0 : decode cX11_row 0 = .ok (.iload_n 1, 1) := by decide +kernel
theorem dX11_row_1 : decode cX11_row 1 = .ok (.invokestatic 142, 3) := by decide +kernel
theorem dX11_row_4 : decode cX11_row 4 = .ok (.ifCond .eq 18, 3) := by decide +kernel
theorem dX11_row_7 : decode cX11_row 7 = .ok (.iload_n 2, 1) := by decide +kernel
theorem dX11_row_8 : decode cX11_row 8 = .ok (.iconst 0, 1) := by decide +kernel
theorem dX11_row_9 : decode cX11_row 9 = .ok (.iconst 2, 1) := by decide +kernel
theorem dX11_row_10 : decode cX11_row 10 = .ok (.invokestatic 145, 3) := by decide +kernel
theorem dX11_row_13 : decode cX11_row 13 = .ok (.ifCond .eq 9, 3) := by decide +kernel
theorem dX11_row_16 : decode cX11_row 16 = .ok (.iload_n 3, 1) := by decide +kernel
theorem dX11_row_17 : decode cX11_row 17 = .ok (.bipush 100, 2) := by decide +kernel
theorem dX11_row_19 : decode cX11_row 19 = .ok (.if_icmp .le 5, 3) := by decide +kernel
theorem dX11_row_22 : decode cX11_row 22 = .ok (.iconst (-1), 1) := by decide +kernel
theorem dX11_row_23 : decode cX11_row 23 = .ok (.ireturn, 1) := by decide +kernel
theorem dX11_row_24 : decode cX11_row 24 = .ok (.iload_n 3, 1) := by decide +kernel
theorem dX11_row_25 : decode cX11_row 25 = .ok (.ifCond .ge 6, 3) := by decide +kernel
theorem dX11_row_28 : decode cX11_row 28 = .ok (.bipush (-14), 2) := by decide +kernel
theorem dX11_row_30 : decode cX11_row 30 = .ok (.ireturn, 1) := by decide +kernel
theorem dX11_row_31 : decode cX11_row 31 = .ok (.aload_n 0, 1) := by decide +kernel
theorem dX11_row_32 : decode cX11_row 32 = .ok (.getfield 30, 3) := by decide +kernel
theorem dX11_row_35 : decode cX11_row 35 = .ok (.iload_n 1, 1) := by decide +kernel
theorem dX11_row_36 : decode cX11_row 36 = .ok (.aconst_null, 1) := by decide +kernel
theorem dX11_row_37 : decode cX11_row 37 = .ok (.aastore, 1) := by decide +kernel
theorem dX11_row_38 : decode cX11_row 38 = .ok (.aload_n 0, 1) := by decide +kernel
theorem dX11_row_39 : decode cX11_row 39 = .ok (.getfield 36, 3) := by decide +kernel
theorem dX11_row_42 : decode cX11_row 42 = .ok (.iload_n 1, 1) := by decide +kernel
theorem dX11_row_43 : decode cX11_row 43 = .ok (.new 34, 3) := by decide +kernel
theorem dX11_row_46 : decode cX11_row 46 = .ok (.dup, 1) := by decide +kernel
theorem dX11_row_47 : decode cX11_row 47 = .ok (.iload_n 2, 1) := by decide +kernel
theorem dX11_row_48 : decode cX11_row 48 = .ok (.iload_n 3, 1) := by decide +kernel
theorem dX11_row_49 : decode cX11_row 49 = .ok (.invokespecial 292, 3) := by decide +kernel
theorem dX11_row_52 : decode cX11_row 52 = .ok (.aastore, 1) := by decide +kernel
theorem dX11_row_53 : decode cX11_row 53 = .ok (.iconst 0, 1) := by decide +kernel
theorem dX11_row_54 : decode cX11_row 54 = .ok (.ireturn, 1) := by decide +kernel
theorem dX11_put_0 : decode cX11_put 0 = .ok (.aload_n 0, 1) := by decide +kernel
theorem dX11_put_1 : decode cX11_put 1 = .ok (.iload_n 1, 1) := by decide +kernel
theorem dX11_put_2 : decode cX11_put 2 = .ok (.invokevirtual 63, 3) := by decide +kernel
theorem dX11_put_5 : decode cX11_put 5 = .ok (.astore 4, 2) := by decide +kernel
theorem dX11_put_7 : decode cX11_put 7 = .ok (.aload 4, 2) := by decide +kernel
theorem dX11_put_9 : decode cX11_put 9 = .ok (.ifnonnull 9, 3) := by decide +kernel
theorem dX11_put_12 : decode cX11_put 12 = .ok (.aload_n 0, 1) := by decide +kernel
theorem dX11_put_13 : decode cX11_put 13 = .ok (.iload_n 1, 1) := by decide +kernel
theorem dX11_put_14 : decode cX11_put 14 = .ok (.invokevirtual 67, 3) := by decide +kernel
theorem dX11_put_17 : decode cX11_put 17 = .ok (.ireturn, 1) := by decide +kernel
theorem dX11_put_18 : decode cX11_put 18 = .ok (.aload 4, 2) := by decide +kernel
theorem dX11_put_20 : decode cX11_put 20 = .ok (.iload_n 2, 1) := by decide +kernel
theorem dX11_put_21 : decode cX11_put 21 = .ok (.invokevirtual 294, 3) := by decide +kernel
theorem dX11_put_24 : decode cX11_put 24 = .ok (.ifCond .ne 6, 3) := by decide +kernel
theorem dX11_put_27 : decode cX11_put 27 = .ok (.bipush (-13), 2) := by decide +kernel
theorem dX11_put_29 : decode cX11_put 29 = .ok (.ireturn, 1) := by decide +kernel
theorem dX11_put_30 : decode cX11_put 30 = .ok (.aload 4, 2) := by decide +kernel
theorem dX11_put_32 : decode cX11_put 32 = .ok (.iload_n 2, 1) := by decide +kernel
theorem dX11_put_33 : decode cX11_put 33 = .ok (.iload_n 3, 1) := by decide +kernel
theorem dX11_put_34 : decode cX11_put 34 = .ok (.invokevirtual 295, 3) := by decide +kernel
theorem dX11_put_37 : decode cX11_put 37 = .ok (.iconst 0, 1) := by decide +kernel
theorem dX11_put_38 : decode cX11_put 38 = .ok (.ireturn, 1) := by decide +kernel
theorem dX11_element_0 : decode cX11_element 0 = .ok (.iload_n 1, 1) := by decide +kernel
theorem dX11_element_1 : decode cX11_element 1 = .ok (.invokestatic 142, 3) := by decide +kernel
theorem dX11_element_4 : decode cX11_element 4 = .ok (.ifCond .ne 14, 3) := by decide +kernel
theorem dX11_element_7 : decode cX11_element 7 = .ok (.new 298, 3) := by decide +kernel
theorem dX11_element_10 : decode cX11_element 10 = .ok (.dup, 1) := by decide +kernel
theorem dX11_element_11 : decode cX11_element 11 = .ok (.ldc_w 300, 3) := by decide +kernel
theorem dX11_element_14 : decode cX11_element 14 = .ok (.invokespecial 302, 3) := by decide +kernel
theorem dX11_element_17 : decode cX11_element 17 = .ok (.athrow, 1) := by decide +kernel
theorem dX11_element_18 : decode cX11_element 18 = .ok (.aload_n 0, 1) := by decide +kernel
theorem dX11_element_19 : decode cX11_element 19 = .ok (.iload_n 1, 1) := by decide +kernel
theorem dX11_element_20 : decode cX11_element 20 = .ok (.invokevirtual 63, 3) := by decide +kernel
theorem dX11_element_23 : decode cX11_element 23 = .ok (.astore_n 3, 1) := by decide +kernel
theorem dX11_element_24 : decode cX11_element 24 = .ok (.aload_n 3, 1) := by decide +kernel
theorem dX11_element_25 : decode cX11_element 25 = .ok (.ifnonnull 14, 3) := by decide +kernel
theorem dX11_element_28 : decode cX11_element 28 = .ok (.new 305, 3) := by decide +kernel
theorem dX11_element_31 : decode cX11_element 31 = .ok (.dup, 1) := by decide +kernel
theorem dX11_element_32 : decode cX11_element 32 = .ok (.ldc_w 307, 3) := by decide +kernel
theorem dX11_element_35 : decode cX11_element 35 = .ok (.invokespecial 309, 3) := by decide +kernel
theorem dX11_element_38 : decode cX11_element 38 = .ok (.athrow, 1) := by decide +kernel
theorem dX11_element_39 : decode cX11_element 39 = .ok (.aload_n 3, 1) := by decide +kernel
theorem dX11_element_40 : decode cX11_element 40 = .ok (.iload_n 2, 1) := by decide +kernel
theorem dX11_element_41 : decode cX11_element 41 = .ok (.invokevirtual 294, 3) := by decide +kernel
theorem dX11_element_44 : decode cX11_element 44 = .ok (.ifCond .ne 14, 3) := by decide +kernel
theorem dX11_element_47 : decode cX11_element 47 = .ok (.new 305, 3) := by decide +kernel
theorem dX11_element_50 : decode cX11_element 50 = .ok (.dup, 1) := by decide +kernel
theorem dX11_element_51 : decode cX11_element 51 = .ok (.ldc_w 310, 3) := by decide +kernel
theorem dX11_element_54 : decode cX11_element 54 = .ok (.invokespecial 309, 3) := by decide +kernel
theorem dX11_element_57 : decode cX11_element 57 = .ok (.athrow, 1) := by decide +kernel
theorem dX11_element_58 : decode cX11_element 58 = .ok (.aload_n 3, 1) := by decide +kernel
theorem dX11_element_59 : decode cX11_element 59 = .ok (.iload_n 2, 1) := by decide +kernel
theorem dX11_element_60 : decode cX11_element 60 = .ok (.invokevirtual 90, 3) := by decide +kernel
theorem dX11_element_63 : decode cX11_element 63 = .ok (.i2l, 1) := by decide +kernel
theorem dX11_element_64 : decode cX11_element 64 = .ok (.lreturn, 1) := by decide +kernel
theorem dX11_copy_0 : decode cX11_copy 0 = .ok (.iload_n 1, 1) := by decide +kernel
theorem dX11_copy_1 : decode cX11_copy 1 = .ok (.invokestatic 142, 3) := by decide +kernel
theorem dX11_copy_4 : decode cX11_copy 4 = .ok (.ifCond .eq 10, 3) := by decide +kernel
theorem dX11_copy_7 : decode cX11_copy 7 = .ok (.iload_n 3, 1) := by decide +kernel
theorem dX11_copy_8 : decode cX11_copy 8 = .ok (.invokestatic 142, 3) := by decide +kernel
theorem dX11_copy_11 : decode cX11_copy 11 = .ok (.ifCond .ne 5, 3) := by decide +kernel
theorem dX11_copy_14 : decode cX11_copy 14 = .ok (.iconst (-1), 1) := by decide +kernel
theorem dX11_copy_15 : decode cX11_copy 15 = .ok (.ireturn, 1) := by decide +kernel
theorem dX11_copy_16 : decode cX11_copy 16 = .ok (.aload_n 0, 1) := by decide +kernel
theorem dX11_copy_17 : decode cX11_copy 17 = .ok (.iload_n 1, 1) := by decide +kernel
theorem dX11_copy_18 : decode cX11_copy 18 = .ok (.invokevirtual 312, 3) := by decide +kernel
theorem dX11_copy_21 : decode cX11_copy 21 = .ok (.ifCond .ne 11, 3) := by decide +kernel
theorem dX11_copy_24 : decode cX11_copy 24 = .ok (.aload_n 0, 1) := by decide +kernel
theorem dX11_copy_25 : decode cX11_copy 25 = .ok (.iload_n 3, 1) := by decide +kernel
theorem dX11_copy_26 : decode cX11_copy 26 = .ok (.invokevirtual 312, 3) := by decide +kernel
theorem dX11_copy_29 : decode cX11_copy 29 = .ok (.ifCond .eq 6, 3) := by decide +kernel
theorem dX11_copy_32 : decode cX11_copy 32 = .ok (.bipush (-11), 2) := by decide +kernel
theorem dX11_copy_34 : decode cX11_copy 34 = .ok (.ireturn, 1) := by decide +kernel
theorem dX11_copy_35 : decode cX11_copy 35 = .ok (.aload_n 0, 1) := by decide +kernel
theorem dX11_copy_36 : decode cX11_copy 36 = .ok (.iload_n 1, 1) := by decide +kernel
theorem dX11_copy_37 : decode cX11_copy 37 = .ok (.invokevirtual 63, 3) := by decide +kernel
theorem dX11_copy_40 : decode cX11_copy 40 = .ok (.astore 6, 2) := by decide +kernel
theorem dX11_copy_42 : decode cX11_copy 42 = .ok (.aload_n 0, 1) := by decide +kernel
theorem dX11_copy_43 : decode cX11_copy 43 = .ok (.iload_n 3, 1) := by decide +kernel
theorem dX11_copy_44 : decode cX11_copy 44 = .ok (.invokevirtual 63, 3) := by decide +kernel
theorem dX11_copy_47 : decode cX11_copy 47 = .ok (.astore 7, 2) := by decide +kernel
theorem dX11_copy_49 : decode cX11_copy 49 = .ok (.aload 6, 2) := by decide +kernel
theorem dX11_copy_51 : decode cX11_copy 51 = .ok (.ifnull 21, 3) := by decide +kernel
theorem dX11_copy_54 : decode cX11_copy 54 = .ok (.aload 7, 2) := by decide +kernel
theorem dX11_copy_56 : decode cX11_copy 56 = .ok (.ifnull 16, 3) := by decide +kernel
theorem dX11_copy_59 : decode cX11_copy 59 = .ok (.aload 6, 2) := by decide +kernel
theorem dX11_copy_61 : decode cX11_copy 61 = .ok (.getfield 71, 3) := by decide +kernel
theorem dX11_copy_64 : decode cX11_copy 64 = .ok (.aload 7, 2) := by decide +kernel
theorem dX11_copy_66 : decode cX11_copy 66 = .ok (.getfield 71, 3) := by decide +kernel
theorem dX11_copy_69 : decode cX11_copy 69 = .ok (.if_icmp .eq 6, 3) := by decide +kernel
theorem dX11_copy_72 : decode cX11_copy 72 = .ok (.bipush (-12), 2) := by decide +kernel
theorem dX11_copy_74 : decode cX11_copy 74 = .ok (.ireturn, 1) := by decide +kernel
theorem dX11_copy_75 : decode cX11_copy 75 = .ok (.aload 6, 2) := by decide +kernel
theorem dX11_copy_77 : decode cX11_copy 77 = .ok (.iload_n 2, 1) := by decide +kernel
theorem dX11_copy_78 : decode cX11_copy 78 = .ok (.iload 5, 2) := by decide +kernel
theorem dX11_copy_80 : decode cX11_copy 80 = .ok (.invokevirtual 315, 3) := by decide +kernel
theorem dX11_copy_83 : decode cX11_copy 83 = .ok (.ifCond .eq 15, 3) := by decide +kernel
theorem dX11_copy_86 : decode cX11_copy 86 = .ok (.aload 7, 2) := by decide +kernel
theorem dX11_copy_88 : decode cX11_copy 88 = .ok (.iload 4, 2) := by decide +kernel
theorem dX11_copy_90 : decode cX11_copy 90 = .ok (.iload 5, 2) := by decide +kernel
theorem dX11_copy_92 : decode cX11_copy 92 = .ok (.invokevirtual 315, 3) := by decide +kernel
theorem dX11_copy_95 : decode cX11_copy 95 = .ok (.ifCond .ne 6, 3) := by decide +kernel
theorem dX11_copy_98 : decode cX11_copy 98 = .ok (.bipush (-13), 2) := by decide +kernel
theorem dX11_copy_100 : decode cX11_copy 100 = .ok (.ireturn, 1) := by decide +kernel
theorem dX11_copy_101 : decode cX11_copy 101 = .ok (.aload 6, 2) := by decide +kernel
theorem dX11_copy_103 : decode cX11_copy 103 = .ok (.getfield 318, 3) := by decide +kernel
theorem dX11_copy_106 : decode cX11_copy 106 = .ok (.iload_n 2, 1) := by decide +kernel
theorem dX11_copy_107 : decode cX11_copy 107 = .ok (.aload 7, 2) := by decide +kernel
theorem dX11_copy_109 : decode cX11_copy 109 = .ok (.getfield 318, 3) := by decide +kernel
theorem dX11_copy_112 : decode cX11_copy 112 = .ok (.iload 4, 2) := by decide +kernel
theorem dX11_copy_114 : decode cX11_copy 114 = .ok (.iload 5, 2) := by decide +kernel
theorem dX11_copy_116 : decode cX11_copy 116 = .ok (.invokestatic 321, 3) := by decide +kernel
theorem dX11_copy_119 : decode cX11_copy 119 = .ok (.iload 5, 2) := by decide +kernel
theorem dX11_copy_121 : decode cX11_copy 121 = .ok (.ireturn, 1) := by decide +kernel
theorem dX11_cost_0 : decode cX11_cost 0 = .ok (.aload_n 0, 1) := by decide +kernel
theorem dX11_cost_1 : decode cX11_cost 1 = .ok (.iload_n 1, 1) := by decide +kernel
theorem dX11_cost_2 : decode cX11_cost 2 = .ok (.invokevirtual 149, 3) := by decide +kernel
theorem dX11_cost_5 : decode cX11_cost 5 = .ok (.astore_n 2, 1) := by decide +kernel
theorem dX11_cost_6 : decode cX11_cost 6 = .ok (.aload_n 2, 1) := by decide +kernel
theorem dX11_cost_7 : decode cX11_cost 7 = .ok (.ifnonnull 11, 3) := by decide +kernel
theorem dX11_cost_10 : decode cX11_cost 10 = .ok (.aload_n 0, 1) := by decide +kernel
theorem dX11_cost_11 : decode cX11_cost 11 = .ok (.iload_n 1, 1) := by decide +kernel
theorem dX11_cost_12 : decode cX11_cost 12 = .ok (.invokevirtual 67, 3) := by decide +kernel
theorem dX11_cost_15 : decode cX11_cost 15 = .ok (.goto 7, 3) := by decide +kernel
end
section
theorem dX11_cost_18 : decode cX11_cost 18 = .ok (.aload_n 2, 1) := by decide +kernel
theorem dX11_cost_19 : decode cX11_cost 19 = .ok (.getfield 327, 3) := by decide +kernel
theorem dX11_cost_22 : decode cX11_cost 22 = .ok (.ireturn, 1) := by decide +kernel
theorem dX11_toss_0 : decode cX11_toss 0 = .ok (.aload_n 0, 1) := by decide +kernel
theorem dX11_toss_1 : decode cX11_toss 1 = .ok (.iload_n 1, 1) := by decide +kernel
theorem dX11_toss_2 : decode cX11_toss 2 = .ok (.invokevirtual 149, 3) := by decide +kernel
theorem dX11_toss_5 : decode cX11_toss 5 = .ok (.astore_n 2, 1) := by decide +kernel
theorem dX11_toss_6 : decode cX11_toss 6 = .ok (.aload_n 2, 1) := by decide +kernel
theorem dX11_toss_7 : decode cX11_toss 7 = .ok (.ifnonnull 9, 3) := by decide +kernel
theorem dX11_toss_10 : decode cX11_toss 10 = .ok (.aload_n 0, 1) := by decide +kernel
theorem dX11_toss_11 : decode cX11_toss 11 = .ok (.iload_n 1, 1) := by decide +kernel
theorem dX11_toss_12 : decode cX11_toss 12 = .ok (.invokevirtual 67, 3) := by decide +kernel
theorem dX11_toss_15 : decode cX11_toss 15 = .ok (.ireturn, 1) := by decide +kernel
theorem dX11_toss_16 : decode cX11_toss 16 = .ok (.aload_n 2, 1) := by decide +kernel
theorem dX11_toss_17 : decode cX11_toss 17 = .ok (.invokevirtual 330, 3) := by decide +kernel
theorem dX11_toss_20 : decode cX11_toss 20 = .ok (.goto 28, 3) := by decide +kernel
theorem dX11_toss_23 : decode cX11_toss 23 = .ok (.astore_n 3, 1) := by decide +kernel
theorem dX11_toss_24 : decode cX11_toss 24 = .ok (.sipush 200, 3) := by decide +kernel
theorem dX11_toss_27 : decode cX11_toss 27 = .ok (.aload_n 2, 1) := by decide +kernel
theorem dX11_toss_28 : decode cX11_toss 28 = .ok (.getfield 327, 3) := by decide +kernel
theorem dX11_toss_31 : decode cX11_toss 31 = .ok (.iadd, 1) := by decide +kernel
theorem dX11_toss_32 : decode cX11_toss 32 = .ok (.ireturn, 1) := by decide +kernel
theorem dX11_toss_33 : decode cX11_toss 33 = .ok (.astore_n 3, 1) := by decide +kernel
theorem dX11_toss_34 : decode cX11_toss 34 = .ok (.bipush 100, 2) := by decide +kernel
theorem dX11_toss_36 : decode cX11_toss 36 = .ok (.aload_n 2, 1) := by decide +kernel
theorem dX11_toss_37 : decode cX11_toss 37 = .ok (.getfield 115, 3) := by decide +kernel
theorem dX11_toss_40 : decode cX11_toss 40 = .ok (.iadd, 1) := by decide +kernel
theorem dX11_toss_41 : decode cX11_toss 41 = .ok (.ireturn, 1) := by decide +kernel
theorem dX11_toss_42 : decode cX11_toss 42 = .ok (.astore_n 3, 1) := by decide +kernel
theorem dX11_toss_43 : decode cX11_toss 43 = .ok (.aload_n 2, 1) := by decide +kernel
theorem dX11_toss_44 : decode cX11_toss 44 = .ok (.getfield 115, 3) := by decide +kernel
theorem dX11_toss_47 : decode cX11_toss 47 = .ok (.ireturn, 1) := by decide +kernel
theorem dX11_toss_48 : decode cX11_toss 48 = .ok (.bipush (-15), 2) := by decide +kernel
theorem dX11_toss_50 : decode cX11_toss 50 = .ok (.ireturn, 1) := by decide +kernel
theorem dX11_within_0 : decode cX11_within 0 = .ok (.iload_n 0, 1) := by decide +kernel
theorem dX11_within_1 : decode cX11_within 1 = .ok (.iload_n 1, 1) := by decide +kernel
theorem dX11_within_2 : decode cX11_within 2 = .ok (.if_icmp .lt 12, 3) := by decide +kernel
theorem dX11_within_5 : decode cX11_within 5 = .ok (.iload_n 0, 1) := by decide +kernel
theorem dX11_within_6 : decode cX11_within 6 = .ok (.iload_n 2, 1) := by decide +kernel
theorem dX11_within_7 : decode cX11_within 7 = .ok (.if_icmp .gt 7, 3) := by decide +kernel
theorem dX11_within_10 : decode cX11_within 10 = .ok (.iconst 1, 1) := by decide +kernel
theorem dX11_within_11 : decode cX11_within 11 = .ok (.goto 4, 3) := by decide +kernel
theorem dX11_within_14 : decode cX11_within 14 = .ok (.iconst 0, 1) := by decide +kernel
theorem dX11_within_15 : decode cX11_within 15 = .ok (.ireturn, 1) := by decide +kernel
theorem dX11_isShelf_0 : decode cX11_isShelf 0 = .ok (.iload_n 0, 1) := by decide +kernel
theorem dX11_isShelf_1 : decode cX11_isShelf 1 = .ok (.iconst 0, 1) := by decide +kernel
theorem dX11_isShelf_2 : decode cX11_isShelf 2 = .ok (.bipush 7, 2) := by decide +kernel
theorem dX11_isShelf_4 : decode cX11_isShelf 4 = .ok (.invokestatic 145, 3) := by decide +kernel
theorem dX11_isShelf_7 : decode cX11_isShelf 7 = .ok (.ireturn, 1) := by decide +kernel
theorem dX11_isEmpty_0 : decode cX11_isEmpty 0 = .ok (.aload_n 0, 1) := by decide +kernel
theorem dX11_isEmpty_1 : decode cX11_isEmpty 1 = .ok (.iload_n 1, 1) := by decide +kernel
theorem dX11_isEmpty_2 : decode cX11_isEmpty 2 = .ok (.invokevirtual 63, 3) := by decide +kernel
theorem dX11_isEmpty_5 : decode cX11_isEmpty 5 = .ok (.ifnonnull 15, 3) := by decide +kernel
theorem dX11_isEmpty_8 : decode cX11_isEmpty 8 = .ok (.aload_n 0, 1) := by decide +kernel
theorem dX11_isEmpty_9 : decode cX11_isEmpty 9 = .ok (.iload_n 1, 1) := by decide +kernel
theorem dX11_isEmpty_10 : decode cX11_isEmpty 10 = .ok (.invokevirtual 149, 3) := by decide +kernel
theorem dX11_isEmpty_13 : decode cX11_isEmpty 13 = .ok (.ifnonnull 7, 3) := by decide +kernel
theorem dX11_isEmpty_16 : decode cX11_isEmpty 16 = .ok (.iconst 1, 1) := by decide +kernel
theorem dX11_isEmpty_17 : decode cX11_isEmpty 17 = .ok (.goto 4, 3) := by decide +kernel
theorem dX11_isEmpty_20 : decode cX11_isEmpty 20 = .ok (.iconst 0, 1) := by decide +kernel
theorem dX11_isEmpty_21 : decode cX11_isEmpty 21 = .ok (.ireturn, 1) := by decide +kernel
theorem dX11_rowOn_0 : decode cX11_rowOn 0 = .ok (.iload_n 1, 1) := by decide +kernel
theorem dX11_rowOn_1 : decode cX11_rowOn 1 = .ok (.invokestatic 142, 3) := by decide +kernel
theorem dX11_rowOn_4 : decode cX11_rowOn 4 = .ok (.ifCond .eq 12, 3) := by decide +kernel
theorem dX11_rowOn_7 : decode cX11_rowOn 7 = .ok (.aload_n 0, 1) := by decide +kernel
theorem dX11_rowOn_8 : decode cX11_rowOn 8 = .ok (.getfield 36, 3) := by decide +kernel
theorem dX11_rowOn_11 : decode cX11_rowOn 11 = .ok (.iload_n 1, 1) := by decide +kernel
theorem dX11_rowOn_12 : decode cX11_rowOn 12 = .ok (.aaload, 1) := by decide +kernel
theorem dX11_rowOn_13 : decode cX11_rowOn 13 = .ok (.goto 4, 3) := by decide +kernel
theorem dX11_rowOn_16 : decode cX11_rowOn 16 = .ok (.aconst_null, 1) := by decide +kernel
theorem dX11_rowOn_17 : decode cX11_rowOn 17 = .ok (.areturn, 1) := by decide +kernel
theorem dX11_kindOn_0 : decode cX11_kindOn 0 = .ok (.iload_n 1, 1) := by decide +kernel
theorem dX11_kindOn_1 : decode cX11_kindOn 1 = .ok (.invokestatic 142, 3) := by decide +kernel
theorem dX11_kindOn_4 : decode cX11_kindOn 4 = .ok (.ifCond .eq 12, 3) := by decide +kernel
theorem dX11_kindOn_7 : decode cX11_kindOn 7 = .ok (.aload_n 0, 1) := by decide +kernel
theorem dX11_kindOn_8 : decode cX11_kindOn 8 = .ok (.getfield 30, 3) := by decide +kernel
theorem dX11_kindOn_11 : decode cX11_kindOn 11 = .ok (.iload_n 1, 1) := by decide +kernel
theorem dX11_kindOn_12 : decode cX11_kindOn 12 = .ok (.aaload, 1) := by decide +kernel
theorem dX11_kindOn_13 : decode cX11_kindOn 13 = .ok (.goto 4, 3) := by decide +kernel
theorem dX11_kindOn_16 : decode cX11_kindOn 16 = .ok (.aconst_null, 1) := by decide +kernel
theorem dX11_kindOn_17 : decode cX11_kindOn 17 = .ok (.areturn, 1) := by decide +kernel
theorem dX11_whyNot_0 : decode cX11_whyNot 0 = .ok (.iload_n 1, 1) := by decide +kernel
theorem dX11_whyNot_1 : decode cX11_whyNot 1 = .ok (.invokestatic 142, 3) := by decide +kernel
theorem dX11_whyNot_4 : decode cX11_whyNot 4 = .ok (.ifCond .ne 5, 3) := by decide +kernel
theorem dX11_whyNot_7 : decode cX11_whyNot 7 = .ok (.iconst (-1), 1) := by decide +kernel
theorem dX11_whyNot_8 : decode cX11_whyNot 8 = .ok (.ireturn, 1) := by decide +kernel
theorem dX11_whyNot_9 : decode cX11_whyNot 9 = .ok (.aload_n 0, 1) := by decide +kernel
theorem dX11_whyNot_10 : decode cX11_whyNot 10 = .ok (.iload_n 1, 1) := by decide +kernel
theorem dX11_whyNot_11 : decode cX11_whyNot 11 = .ok (.invokevirtual 312, 3) := by decide +kernel
theorem dX11_whyNot_14 : decode cX11_whyNot 14 = .ok (.ifCond .eq 8, 3) := by decide +kernel
theorem dX11_whyNot_17 : decode cX11_whyNot 17 = .ok (.bipush (-11), 2) := by decide +kernel
theorem dX11_whyNot_19 : decode cX11_whyNot 19 = .ok (.goto 5, 3) := by decide +kernel
theorem dX11_whyNot_22 : decode cX11_whyNot 22 = .ok (.bipush (-12), 2) := by decide +kernel
theorem dX11_whyNot_24 : decode cX11_whyNot 24 = .ok (.ireturn, 1) := by decide +kernel
theorem dX11_fromNow_0 : decode cX11_fromNow 0 = .ok (.aload_n 0, 1) := by decide +kernel
theorem dX11_fromNow_1 : decode cX11_fromNow 1 = .ok (.getfield 11, 3) := by decide +kernel
theorem dX11_fromNow_4 : decode cX11_fromNow 4 = .ok (.iconst 0, 1) := by decide +kernel
theorem dX11_fromNow_5 : decode cX11_fromNow 5 = .ok (.aaload, 1) := by decide +kernel
theorem dX11_fromNow_6 : decode cX11_fromNow 6 = .ok (.aload_n 0, 1) := by decide +kernel
theorem dX11_fromNow_7 : decode cX11_fromNow 7 = .ok (.getfield 46, 3) := by decide +kernel
theorem dX11_fromNow_10 : decode cX11_fromNow 10 = .ok (.invokevirtual 96, 3) := by decide +kernel
theorem dX11_fromNow_13 : decode cX11_fromNow 13 = .ok (.aload_n 0, 1) := by decide +kernel
theorem dX11_fromNow_14 : decode cX11_fromNow 14 = .ok (.getfield 11, 3) := by decide +kernel
theorem dX11_fromNow_17 : decode cX11_fromNow 17 = .ok (.iconst 0, 1) := by decide +kernel
theorem dX11_fromNow_18 : decode cX11_fromNow 18 = .ok (.aaload, 1) := by decide +kernel
theorem dX11_fromNow_19 : decode cX11_fromNow 19 = .ok (.areturn, 1) := by decide +kernel
theorem dX11_fewestAlone_0 : decode cX11_fewestAlone 0 = .ok (.aload_n 0, 1) := by decide +kernel
theorem dX11_fewestAlone_1 : decode cX11_fewestAlone 1 = .ok (.getfield 15, 3) := by decide +kernel
theorem dX11_fewestAlone_4 : decode cX11_fewestAlone 4 = .ok (.iconst (-1), 1) := by decide +kernel
theorem dX11_fewestAlone_5 : decode cX11_fewestAlone 5 = .ok (.invokestatic 335, 3) := by decide +kernel
theorem dX11_fewestAlone_8 : decode cX11_fewestAlone 8 = .ok (.aload_n 1, 1) := by decide +kernel
theorem dX11_fewestAlone_9 : decode cX11_fewestAlone 9 = .ok (.invokestatic 341, 3) := by decide +kernel
theorem dX11_fewestAlone_12 : decode cX11_fewestAlone 12 = .ok (.istore_n 3, 1) := by decide +kernel
theorem dX11_fewestAlone_13 : decode cX11_fewestAlone 13 = .ok (.aload_n 0, 1) := by decide +kernel
theorem dX11_fewestAlone_14 : decode cX11_fewestAlone 14 = .ok (.getfield 15, 3) := by decide +kernel
theorem dX11_fewestAlone_17 : decode cX11_fewestAlone 17 = .ok (.iload_n 3, 1) := by decide +kernel
theorem dX11_fewestAlone_18 : decode cX11_fewestAlone 18 = .ok (.iconst 0, 1) := by decide +kernel
theorem dX11_fewestAlone_19 : decode cX11_fewestAlone 19 = .ok (.iastore, 1) := by decide +kernel
theorem dX11_fewestAlone_20 : decode cX11_fewestAlone 20 = .ok (.aload_n 0, 1) := by decide +kernel
theorem dX11_fewestAlone_21 : decode cX11_fewestAlone 21 = .ok (.getfield 19, 3) := by decide +kernel
theorem dX11_fewestAlone_24 : decode cX11_fewestAlone 24 = .ok (.iconst 0, 1) := by decide +kernel
theorem dX11_fewestAlone_25 : decode cX11_fewestAlone 25 = .ok (.iload_n 3, 1) := by decide +kernel
theorem dX11_fewestAlone_26 : decode cX11_fewestAlone 26 = .ok (.iastore, 1) := by decide +kernel
theorem dX11_fewestAlone_27 : decode cX11_fewestAlone 27 = .ok (.iconst 1, 1) := by decide +kernel
theorem dX11_fewestAlone_28 : decode cX11_fewestAlone 28 = .ok (.istore 4, 2) := by decide +kernel
theorem dX11_fewestAlone_30 : decode cX11_fewestAlone 30 = .ok (.iconst 0, 1) := by decide +kernel
theorem dX11_fewestAlone_31 : decode cX11_fewestAlone 31 = .ok (.istore 5, 2) := by decide +kernel
theorem dX11_fewestAlone_33 : decode cX11_fewestAlone 33 = .ok (.iload 5, 2) := by decide +kernel
theorem dX11_fewestAlone_35 : decode cX11_fewestAlone 35 = .ok (.iload 4, 2) := by decide +kernel
theorem dX11_fewestAlone_37 : decode cX11_fewestAlone 37 = .ok (.if_icmp .ge 181, 3) := by decide +kernel
theorem dX11_fewestAlone_40 : decode cX11_fewestAlone 40 = .ok (.iload 5, 2) := by decide +kernel
theorem dX11_fewestAlone_42 : decode cX11_fewestAlone 42 = .ok (.aload_n 0, 1) := by decide +kernel
theorem dX11_fewestAlone_43 : decode cX11_fewestAlone 43 = .ok (.getfield 19, 3) := by decide +kernel
theorem dX11_fewestAlone_46 : decode cX11_fewestAlone 46 = .ok (.arraylength, 1) := by decide +kernel
theorem dX11_fewestAlone_47 : decode cX11_fewestAlone 47 = .ok (.if_icmp .ge 171, 3) := by decide +kernel
theorem dX11_fewestAlone_50 : decode cX11_fewestAlone 50 = .ok (.aload_n 0, 1) := by decide +kernel
theorem dX11_fewestAlone_51 : decode cX11_fewestAlone 51 = .ok (.getfield 19, 3) := by decide +kernel
theorem dX11_fewestAlone_54 : decode cX11_fewestAlone 54 = .ok (.iload 5, 2) := by decide +kernel
theorem dX11_fewestAlone_56 : decode cX11_fewestAlone 56 = .ok (.iaload, 1) := by decide +kernel
theorem dX11_fewestAlone_57 : decode cX11_fewestAlone 57 = .ok (.istore 6, 2) := by decide +kernel
theorem dX11_fewestAlone_59 : decode cX11_fewestAlone 59 = .ok (.iload 6, 2) := by decide +kernel
theorem dX11_fewestAlone_61 : decode cX11_fewestAlone 61 = .ok (.bipush 21, 2) := by decide +kernel
theorem dX11_fewestAlone_63 : decode cX11_fewestAlone 63 = .ok (.idiv, 1) := by decide +kernel
theorem dX11_fewestAlone_64 : decode cX11_fewestAlone 64 = .ok (.bipush 7, 2) := by decide +kernel
theorem dX11_fewestAlone_66 : decode cX11_fewestAlone 66 = .ok (.if_icmp .ne 28, 3) := by decide +kernel
theorem dX11_fewestAlone_69 : decode cX11_fewestAlone 69 = .ok (.aload_n 0, 1) := by decide +kernel
theorem dX11_fewestAlone_70 : decode cX11_fewestAlone 70 = .ok (.getfield 15, 3) := by decide +kernel
theorem dX11_fewestAlone_73 : decode cX11_fewestAlone 73 = .ok (.iload 6, 2) := by decide +kernel
theorem dX11_fewestAlone_75 : decode cX11_fewestAlone 75 = .ok (.iaload, 1) := by decide +kernel
theorem dX11_fewestAlone_76 : decode cX11_fewestAlone 76 = .ok (.bipush 60, 2) := by decide +kernel
theorem dX11_fewestAlone_78 : decode cX11_fewestAlone 78 = .ok (.if_icmp .gt 13, 3) := by decide +kernel
theorem dX11_fewestAlone_81 : decode cX11_fewestAlone 81 = .ok (.aload_n 0, 1) := by decide +kernel
theorem dX11_fewestAlone_82 : decode cX11_fewestAlone 82 = .ok (.getfield 15, 3) := by decide +kernel
theorem dX11_fewestAlone_85 : decode cX11_fewestAlone 85 = .ok (.iload 6, 2) := by decide +kernel
theorem dX11_fewestAlone_87 : decode cX11_fewestAlone 87 = .ok (.iaload, 1) := by decide +kernel
theorem dX11_fewestAlone_88 : decode cX11_fewestAlone 88 = .ok (.goto 5, 3) := by decide +kernel
theorem dX11_fewestAlone_91 : decode cX11_fewestAlone 91 = .ok (.bipush (-4), 2) := by decide +kernel
theorem dX11_fewestAlone_93 : decode cX11_fewestAlone 93 = .ok (.ireturn, 1) := by decide +kernel
theorem dX11_fewestAlone_94 : decode cX11_fewestAlone 94 = .ok (.iload_n 2, 1) := by decide +kernel
theorem dX11_fewestAlone_95 : decode cX11_fewestAlone 95 = .ok (.istore 7, 2) := by decide +kernel
theorem dX11_fewestAlone_97 : decode cX11_fewestAlone 97 = .ok (.iload 7, 2) := by decide +kernel
theorem dX11_fewestAlone_99 : decode cX11_fewestAlone 99 = .ok (.iconst 2, 1) := by decide +kernel
theorem dX11_fewestAlone_100 : decode cX11_fewestAlone 100 = .ok (.if_icmp .gt 112, 3) := by decide +kernel
theorem dX11_fewestAlone_103 : decode cX11_fewestAlone 103 = .ok (.aload_n 0, 1) := by decide +kernel
theorem dX11_fewestAlone_104 : decode cX11_fewestAlone 104 = .ok (.getfield 56, 3) := by decide +kernel
theorem dX11_fewestAlone_107 : decode cX11_fewestAlone 107 = .ok (.aload_n 1, 1) := by decide +kernel
theorem dX11_fewestAlone_108 : decode cX11_fewestAlone 108 = .ok (.getfield 108, 3) := by decide +kernel
theorem dX11_fewestAlone_111 : decode cX11_fewestAlone 111 = .ok (.putfield 108, 3) := by decide +kernel
theorem dX11_fewestAlone_114 : decode cX11_fewestAlone 114 = .ok (.aload_n 0, 1) := by decide +kernel
theorem dX11_fewestAlone_115 : decode cX11_fewestAlone 115 = .ok (.getfield 56, 3) := by decide +kernel
theorem dX11_fewestAlone_118 : decode cX11_fewestAlone 118 = .ok (.iload 6, 2) := by decide +kernel
theorem dX11_fewestAlone_120 : decode cX11_fewestAlone 120 = .ok (.bipush 21, 2) := by decide +kernel
theorem dX11_fewestAlone_122 : decode cX11_fewestAlone 122 = .ok (.irem, 1) := by decide +kernel
theorem dX11_fewestAlone_123 : decode cX11_fewestAlone 123 = .ok (.putfield 118, 3) := by decide +kernel
theorem dX11_fewestAlone_126 : decode cX11_fewestAlone 126 = .ok (.aload_n 0, 1) := by decide +kernel
theorem dX11_fewestAlone_127 : decode cX11_fewestAlone 127 = .ok (.getfield 56, 3) := by decide +kernel
theorem dX11_fewestAlone_130 : decode cX11_fewestAlone 130 = .ok (.iload 6, 2) := by decide +kernel
theorem dX11_fewestAlone_132 : decode cX11_fewestAlone 132 = .ok (.bipush 21, 2) := by decide +kernel
theorem dX11_fewestAlone_134 : decode cX11_fewestAlone 134 = .ok (.idiv, 1) := by decide +kernel
theorem dX11_fewestAlone_135 : decode cX11_fewestAlone 135 = .ok (.putfield 121, 3) := by decide +kernel
theorem dX11_fewestAlone_138 : decode cX11_fewestAlone 138 = .ok (.aload_n 0, 1) := by decide +kernel
theorem dX11_fewestAlone_139 : decode cX11_fewestAlone 139 = .ok (.getfield 56, 3) := by decide +kernel
theorem dX11_fewestAlone_142 : decode cX11_fewestAlone 142 = .ok (.iload 7, 2) := by decide +kernel
theorem dX11_fewestAlone_144 : decode cX11_fewestAlone 144 = .ok (.invokevirtual 345, 3) := by decide +kernel
theorem dX11_fewestAlone_147 : decode cX11_fewestAlone 147 = .ok (.pop, 1) := by decide +kernel
theorem dX11_fewestAlone_148 : decode cX11_fewestAlone 148 = .ok (.aload_n 0, 1) := by decide +kernel
theorem dX11_fewestAlone_149 : decode cX11_fewestAlone 149 = .ok (.getfield 56, 3) := by decide +kernel
theorem dX11_fewestAlone_152 : decode cX11_fewestAlone 152 = .ok (.invokestatic 341, 3) := by decide +kernel
theorem dX11_fewestAlone_155 : decode cX11_fewestAlone 155 = .ok (.istore 8, 2) := by decide +kernel
theorem dX11_fewestAlone_157 : decode cX11_fewestAlone 157 = .ok (.aload_n 0, 1) := by decide +kernel
theorem dX11_fewestAlone_158 : decode cX11_fewestAlone 158 = .ok (.getfield 15, 3) := by decide +kernel
theorem dX11_fewestAlone_161 : decode cX11_fewestAlone 161 = .ok (.iload 8, 2) := by decide +kernel
theorem dX11_fewestAlone_163 : decode cX11_fewestAlone 163 = .ok (.iaload, 1) := by decide +kernel
theorem dX11_fewestAlone_164 : decode cX11_fewestAlone 164 = .ok (.iconst (-1), 1) := by decide +kernel
theorem dX11_fewestAlone_165 : decode cX11_fewestAlone 165 = .ok (.if_icmp .ne 41, 3) := by decide +kernel
theorem dX11_fewestAlone_168 : decode cX11_fewestAlone 168 = .ok (.iload 4, 2) := by decide +kernel
theorem dX11_fewestAlone_170 : decode cX11_fewestAlone 170 = .ok (.aload_n 0, 1) := by decide +kernel
theorem dX11_fewestAlone_171 : decode cX11_fewestAlone 171 = .ok (.getfield 19, 3) := by decide +kernel
theorem dX11_fewestAlone_174 : decode cX11_fewestAlone 174 = .ok (.arraylength, 1) := by decide +kernel
theorem dX11_fewestAlone_175 : decode cX11_fewestAlone 175 = .ok (.if_icmp .ge 31, 3) := by decide +kernel
theorem dX11_fewestAlone_178 : decode cX11_fewestAlone 178 = .ok (.aload_n 0, 1) := by decide +kernel
theorem dX11_fewestAlone_179 : decode cX11_fewestAlone 179 = .ok (.getfield 15, 3) := by decide +kernel
theorem dX11_fewestAlone_182 : decode cX11_fewestAlone 182 = .ok (.iload 8, 2) := by decide +kernel
theorem dX11_fewestAlone_184 : decode cX11_fewestAlone 184 = .ok (.aload_n 0, 1) := by decide +kernel
theorem dX11_fewestAlone_185 : decode cX11_fewestAlone 185 = .ok (.getfield 15, 3) := by decide +kernel
theorem dX11_fewestAlone_188 : decode cX11_fewestAlone 188 = .ok (.iload 6, 2) := by decide +kernel
theorem dX11_fewestAlone_190 : decode cX11_fewestAlone 190 = .ok (.iaload, 1) := by decide +kernel
theorem dX11_fewestAlone_191 : decode cX11_fewestAlone 191 = .ok (.iconst 1, 1) := by decide +kernel
theorem dX11_fewestAlone_192 : decode cX11_fewestAlone 192 = .ok (.iadd, 1) := by decide +kernel
theorem dX11_fewestAlone_193 : decode cX11_fewestAlone 193 = .ok (.iastore, 1) := by decide +kernel
theorem dX11_fewestAlone_194 : decode cX11_fewestAlone 194 = .ok (.aload_n 0, 1) := by decide +kernel
theorem dX11_fewestAlone_195 : decode cX11_fewestAlone 195 = .ok (.getfield 19, 3) := by decide +kernel
theorem dX11_fewestAlone_198 : decode cX11_fewestAlone 198 = .ok (.iload 4, 2) := by decide +kernel
theorem dX11_fewestAlone_200 : decode cX11_fewestAlone 200 = .ok (.iload 8, 2) := by decide +kernel
theorem dX11_fewestAlone_202 : decode cX11_fewestAlone 202 = .ok (.iastore, 1) := by decide +kernel
theorem dX11_fewestAlone_203 : decode cX11_fewestAlone 203 = .ok (.iinc 4 1, 3) := by decide +kernel
theorem dX11_fewestAlone_206 : decode cX11_fewestAlone 206 = .ok (.iinc 7 1, 3) := by decide +kernel
theorem dX11_fewestAlone_209 : decode cX11_fewestAlone 209 = .ok (.goto (-112), 3) := by decide +kernel
theorem dX11_fewestAlone_212 : decode cX11_fewestAlone 212 = .ok (.iinc 5 1, 3) := by decide +kernel
theorem dX11_fewestAlone_215 : decode cX11_fewestAlone 215 = .ok (.goto (-182), 3) := by decide +kernel
theorem dX11_fewestAlone_218 : decode cX11_fewestAlone 218 = .ok (.bipush (-4), 2) := by decide +kernel
theorem dX11_fewestAlone_220 : decode cX11_fewestAlone 220 = .ok (.ireturn, 1) := by decide +kernel
theorem dX11_stateOf_0 : decode cX11_stateOf 0 = .ok (.aload_n 0, 1) := by decide +kernel
theorem dX11_stateOf_1 : decode cX11_stateOf 1 = .ok (.getfield 121, 3) := by decide +kernel
theorem dX11_stateOf_4 : decode cX11_stateOf 4 = .ok (.bipush 21, 2) := by decide +kernel
theorem dX11_stateOf_6 : decode cX11_stateOf 6 = .ok (.imul, 1) := by decide +kernel
theorem dX11_stateOf_7 : decode cX11_stateOf 7 = .ok (.aload_n 0, 1) := by decide +kernel
theorem dX11_stateOf_8 : decode cX11_stateOf 8 = .ok (.getfield 118, 3) := by decide +kernel
theorem dX11_stateOf_11 : decode cX11_stateOf 11 = .ok (.iadd, 1) := by decide +kernel
theorem dX11_stateOf_12 : decode cX11_stateOf 12 = .ok (.ireturn, 1) := by decide +kernel
theorem dX11_firstWayAlone_0 : decode cX11_firstWayAlone 0 = .ok (.iconst 0, 1) := by decide +kernel
theorem dX11_firstWayAlone_1 : decode cX11_firstWayAlone 1 = .ok (.istore_n 3, 1) := by decide +kernel
theorem dX11_firstWayAlone_2 : decode cX11_firstWayAlone 2 = .ok (.iload_n 3, 1) := by decide +kernel
theorem dX11_firstWayAlone_3 : decode cX11_firstWayAlone 3 = .ok (.iconst 2, 1) := by decide +kernel
theorem dX11_firstWayAlone_4 : decode cX11_firstWayAlone 4 = .ok (.if_icmp .gt 47, 3) := by decide +kernel
theorem dX11_firstWayAlone_7 : decode cX11_firstWayAlone 7 = .ok (.iload_n 2, 1) := by decide +kernel
theorem dX11_firstWayAlone_8 : decode cX11_firstWayAlone 8 = .ok (.ifCond .le 43, 3) := by decide +kernel
theorem dX11_firstWayAlone_11 : decode cX11_firstWayAlone 11 = .ok (.aload_n 0, 1) := by decide +kernel
theorem dX11_firstWayAlone_12 : decode cX11_firstWayAlone 12 = .ok (.getfield 60, 3) := by decide +kernel
theorem dX11_firstWayAlone_15 : decode cX11_firstWayAlone 15 = .ok (.aload_n 1, 1) := by decide +kernel
theorem dX11_firstWayAlone_16 : decode cX11_firstWayAlone 16 = .ok (.invokevirtual 227, 3) := by decide +kernel
theorem dX11_firstWayAlone_19 : decode cX11_firstWayAlone 19 = .ok (.aload_n 0, 1) := by decide +kernel
theorem dX11_firstWayAlone_20 : decode cX11_firstWayAlone 20 = .ok (.getfield 60, 3) := by decide +kernel
theorem dX11_firstWayAlone_23 : decode cX11_firstWayAlone 23 = .ok (.iload_n 3, 1) := by decide +kernel
theorem dX11_firstWayAlone_24 : decode cX11_firstWayAlone 24 = .ok (.invokevirtual 345, 3) := by decide +kernel
theorem dX11_firstWayAlone_27 : decode cX11_firstWayAlone 27 = .ok (.pop, 1) := by decide +kernel
theorem dX11_firstWayAlone_28 : decode cX11_firstWayAlone 28 = .ok (.aload_n 0, 1) := by decide +kernel
theorem dX11_firstWayAlone_29 : decode cX11_firstWayAlone 29 = .ok (.aload_n 0, 1) := by decide +kernel
theorem dX11_firstWayAlone_30 : decode cX11_firstWayAlone 30 = .ok (.getfield 60, 3) := by decide +kernel
theorem dX11_firstWayAlone_33 : decode cX11_firstWayAlone 33 = .ok (.iconst 0, 1) := by decide +kernel
theorem dX11_firstWayAlone_34 : decode cX11_firstWayAlone 34 = .ok (.invokevirtual 189, 3) := by decide +kernel
theorem dX11_firstWayAlone_37 : decode cX11_firstWayAlone 37 = .ok (.iload_n 2, 1) := by decide +kernel
theorem dX11_firstWayAlone_38 : decode cX11_firstWayAlone 38 = .ok (.iconst 1, 1) := by decide +kernel
theorem dX11_firstWayAlone_39 : decode cX11_firstWayAlone 39 = .ok (.isub, 1) := by decide +kernel
theorem dX11_firstWayAlone_40 : decode cX11_firstWayAlone 40 = .ok (.if_icmp .ne 5, 3) := by decide +kernel
theorem dX11_firstWayAlone_43 : decode cX11_firstWayAlone 43 = .ok (.iload_n 3, 1) := by decide +kernel
theorem dX11_firstWayAlone_44 : decode cX11_firstWayAlone 44 = .ok (.ireturn, 1) := by decide +kernel
theorem dX11_firstWayAlone_45 : decode cX11_firstWayAlone 45 = .ok (.iinc 3 1, 3) := by decide +kernel
theorem dX11_firstWayAlone_48 : decode cX11_firstWayAlone 48 = .ok (.goto (-46), 3) := by decide +kernel
theorem dX11_firstWayAlone_51 : decode cX11_firstWayAlone 51 = .ok (.bipush (-4), 2) := by decide +kernel
theorem dX11_firstWayAlone_53 : decode cX11_firstWayAlone 53 = .ok (.ireturn, 1) := by decide +kernel
theorem dX11_mostFrom_0 : decode cX11_mostFrom 0 = .ok (.aload_n 0, 1) := by decide +kernel
theorem dX11_mostFrom_1 : decode cX11_mostFrom 1 = .ok (.getfield 11, 3) := by decide +kernel
theorem dX11_mostFrom_4 : decode cX11_mostFrom 4 = .ok (.iload_n 1, 1) := by decide +kernel
theorem dX11_mostFrom_5 : decode cX11_mostFrom 5 = .ok (.aaload, 1) := by decide +kernel
theorem dX11_mostFrom_6 : decode cX11_mostFrom 6 = .ok (.astore_n 3, 1) := by decide +kernel
theorem dX11_mostFrom_7 : decode cX11_mostFrom 7 = .ok (.aload_n 3, 1) := by decide +kernel
theorem dX11_mostFrom_8 : decode cX11_mostFrom 8 = .ok (.invokevirtual 183, 3) := by decide +kernel
theorem dX11_mostFrom_11 : decode cX11_mostFrom 11 = .ok (.istore 4, 2) := by decide +kernel
theorem dX11_mostFrom_13 : decode cX11_mostFrom 13 = .ok (.iload_n 2, 1) := by decide +kernel
theorem dX11_mostFrom_14 : decode cX11_mostFrom 14 = .ok (.iconst 1, 1) := by decide +kernel
theorem dX11_mostFrom_15 : decode cX11_mostFrom 15 = .ok (.if_icmp .le 14, 3) := by decide +kernel
theorem dX11_mostFrom_18 : decode cX11_mostFrom 18 = .ok (.iload_n 1, 1) := by decide +kernel
theorem dX11_mostFrom_19 : decode cX11_mostFrom 19 = .ok (.iconst 1, 1) := by decide +kernel
theorem dX11_mostFrom_20 : decode cX11_mostFrom 20 = .ok (.iadd, 1) := by decide +kernel
theorem dX11_mostFrom_21 : decode cX11_mostFrom 21 = .ok (.aload_n 0, 1) := by decide +kernel
theorem dX11_mostFrom_22 : decode cX11_mostFrom 22 = .ok (.getfield 11, 3) := by decide +kernel
theorem dX11_mostFrom_25 : decode cX11_mostFrom 25 = .ok (.arraylength, 1) := by decide +kernel
theorem dX11_mostFrom_26 : decode cX11_mostFrom 26 = .ok (.if_icmp .lt 25, 3) := by decide +kernel
theorem dX11_mostFrom_29 : decode cX11_mostFrom 29 = .ok (.iload_n 2, 1) := by decide +kernel
theorem dX11_mostFrom_30 : decode cX11_mostFrom 30 = .ok (.iconst 1, 1) := by decide +kernel
theorem dX11_mostFrom_31 : decode cX11_mostFrom 31 = .ok (.if_icmp .lt 17, 3) := by decide +kernel
theorem dX11_mostFrom_34 : decode cX11_mostFrom 34 = .ok (.aload_n 3, 1) := by decide +kernel
theorem dX11_mostFrom_35 : decode cX11_mostFrom 35 = .ok (.invokevirtual 348, 3) := by decide +kernel
theorem dX11_mostFrom_38 : decode cX11_mostFrom 38 = .ok (.ifCond .eq 10, 3) := by decide +kernel
theorem dX11_mostFrom_41 : decode cX11_mostFrom 41 = .ok (.iload 4, 2) := by decide +kernel
theorem dX11_mostFrom_43 : decode cX11_mostFrom 43 = .ok (.iconst 1, 1) := by decide +kernel
theorem dX11_mostFrom_44 : decode cX11_mostFrom 44 = .ok (.iadd, 1) := by decide +kernel
theorem dX11_mostFrom_45 : decode cX11_mostFrom 45 = .ok (.goto 5, 3) := by decide +kernel
theorem dX11_mostFrom_48 : decode cX11_mostFrom 48 = .ok (.iload 4, 2) := by decide +kernel
theorem dX11_mostFrom_50 : decode cX11_mostFrom 50 = .ok (.ireturn, 1) := by decide +kernel
theorem dX11_mostFrom_51 : decode cX11_mostFrom 51 = .ok (.aload_n 0, 1) := by decide +kernel
theorem dX11_mostFrom_52 : decode cX11_mostFrom 52 = .ok (.getfield 11, 3) := by decide +kernel
theorem dX11_mostFrom_55 : decode cX11_mostFrom 55 = .ok (.iload_n 1, 1) := by decide +kernel
theorem dX11_mostFrom_56 : decode cX11_mostFrom 56 = .ok (.iconst 1, 1) := by decide +kernel
theorem dX11_mostFrom_57 : decode cX11_mostFrom 57 = .ok (.iadd, 1) := by decide +kernel
theorem dX11_mostFrom_58 : decode cX11_mostFrom 58 = .ok (.aaload, 1) := by decide +kernel
theorem dX11_mostFrom_59 : decode cX11_mostFrom 59 = .ok (.astore 5, 2) := by decide +kernel
theorem dX11_mostFrom_61 : decode cX11_mostFrom 61 = .ok (.iconst 0, 1) := by decide +kernel
theorem dX11_mostFrom_62 : decode cX11_mostFrom 62 = .ok (.istore 6, 2) := by decide +kernel
theorem dX11_mostFrom_64 : decode cX11_mostFrom 64 = .ok (.iload 6, 2) := by decide +kernel
theorem dX11_mostFrom_66 : decode cX11_mostFrom 66 = .ok (.aload_n 3, 1) := by decide +kernel
theorem dX11_mostFrom_67 : decode cX11_mostFrom 67 = .ok (.getfield 161, 3) := by decide +kernel
theorem dX11_mostFrom_70 : decode cX11_mostFrom 70 = .ok (.if_icmp .ge 68, 3) := by decide +kernel
theorem dX11_mostFrom_73 : decode cX11_mostFrom 73 = .ok (.iconst 0, 1) := by decide +kernel
theorem dX11_mostFrom_74 : decode cX11_mostFrom 74 = .ok (.istore 7, 2) := by decide +kernel
theorem dX11_mostFrom_76 : decode cX11_mostFrom 76 = .ok (.iload 7, 2) := by decide +kernel
theorem dX11_mostFrom_78 : decode cX11_mostFrom 78 = .ok (.iconst 2, 1) := by decide +kernel
theorem dX11_mostFrom_79 : decode cX11_mostFrom 79 = .ok (.if_icmp .gt 53, 3) := by decide +kernel
theorem dX11_mostFrom_82 : decode cX11_mostFrom 82 = .ok (.aload_n 3, 1) := by decide +kernel
theorem dX11_mostFrom_83 : decode cX11_mostFrom 83 = .ok (.iload 6, 2) := by decide +kernel
theorem dX11_mostFrom_85 : decode cX11_mostFrom 85 = .ok (.iload 7, 2) := by decide +kernel
theorem dX11_mostFrom_87 : decode cX11_mostFrom 87 = .ok (.invokevirtual 270, 3) := by decide +kernel
theorem dX11_mostFrom_90 : decode cX11_mostFrom 90 = .ok (.ifCond .eq 36, 3) := by decide +kernel
theorem dX11_mostFrom_93 : decode cX11_mostFrom 93 = .ok (.aload 5, 2) := by decide +kernel
theorem dX11_mostFrom_95 : decode cX11_mostFrom 95 = .ok (.aload_n 3, 1) := by decide +kernel
theorem dX11_mostFrom_96 : decode cX11_mostFrom 96 = .ok (.invokevirtual 96, 3) := by decide +kernel
theorem dX11_mostFrom_99 : decode cX11_mostFrom 99 = .ok (.aload 5, 2) := by decide +kernel
theorem dX11_mostFrom_101 : decode cX11_mostFrom 101 = .ok (.iload 6, 2) := by decide +kernel
theorem dX11_mostFrom_103 : decode cX11_mostFrom 103 = .ok (.iload 7, 2) := by decide +kernel
theorem dX11_mostFrom_105 : decode cX11_mostFrom 105 = .ok (.invokevirtual 169, 3) := by decide +kernel
theorem dX11_mostFrom_108 : decode cX11_mostFrom 108 = .ok (.pop, 1) := by decide +kernel
theorem dX11_mostFrom_109 : decode cX11_mostFrom 109 = .ok (.iload 4, 2) := by decide +kernel
theorem dX11_mostFrom_111 : decode cX11_mostFrom 111 = .ok (.aload_n 0, 1) := by decide +kernel
theorem dX11_mostFrom_112 : decode cX11_mostFrom 112 = .ok (.iload_n 1, 1) := by decide +kernel
theorem dX11_mostFrom_113 : decode cX11_mostFrom 113 = .ok (.iconst 1, 1) := by decide +kernel
theorem dX11_mostFrom_114 : decode cX11_mostFrom 114 = .ok (.iadd, 1) := by decide +kernel
theorem dX11_mostFrom_115 : decode cX11_mostFrom 115 = .ok (.iload_n 2, 1) := by decide +kernel
theorem dX11_mostFrom_116 : decode cX11_mostFrom 116 = .ok (.iconst 1, 1) := by decide +kernel
theorem dX11_mostFrom_117 : decode cX11_mostFrom 117 = .ok (.isub, 1) := by decide +kernel
theorem dX11_mostFrom_118 : decode cX11_mostFrom 118 = .ok (.invokevirtual 196, 3) := by decide +kernel
theorem dX11_mostFrom_121 : decode cX11_mostFrom 121 = .ok (.invokestatic 233, 3) := by decide +kernel
theorem dX11_mostFrom_124 : decode cX11_mostFrom 124 = .ok (.istore 4, 2) := by decide +kernel
theorem dX11_mostFrom_126 : decode cX11_mostFrom 126 = .ok (.iinc 7 1, 3) := by decide +kernel
theorem dX11_mostFrom_129 : decode cX11_mostFrom 129 = .ok (.goto (-53), 3) := by decide +kernel
theorem dX11_mostFrom_132 : decode cX11_mostFrom 132 = .ok (.iinc 6 1, 3) := by decide +kernel
theorem dX11_mostFrom_135 : decode cX11_mostFrom 135 = .ok (.goto (-71), 3) := by decide +kernel
theorem dX11_mostFrom_138 : decode cX11_mostFrom 138 = .ok (.iload 4, 2) := by decide +kernel
theorem dX11_mostFrom_140 : decode cX11_mostFrom 140 = .ok (.ireturn, 1) := by decide +kernel
theorem dX11_firstMinuteTo_0 : decode cX11_firstMinuteTo 0 = .ok (.iconst 0, 1) := by decide +kernel
theorem dX11_firstMinuteTo_1 : decode cX11_firstMinuteTo 1 = .ok (.istore_n 3, 1) := by decide +kernel
theorem dX11_firstMinuteTo_2 : decode cX11_firstMinuteTo 2 = .ok (.iload_n 3, 1) := by decide +kernel
theorem dX11_firstMinuteTo_3 : decode cX11_firstMinuteTo 3 = .ok (.aload_n 0, 1) := by decide +kernel
theorem dX11_firstMinuteTo_4 : decode cX11_firstMinuteTo 4 = .ok (.getfield 46, 3) := by decide +kernel
theorem dX11_firstMinuteTo_7 : decode cX11_firstMinuteTo 7 = .ok (.getfield 161, 3) := by decide +kernel
theorem dX11_firstMinuteTo_10 : decode cX11_firstMinuteTo 10 = .ok (.if_icmp .ge 72, 3) := by decide +kernel
theorem dX11_firstMinuteTo_13 : decode cX11_firstMinuteTo 13 = .ok (.iload_n 2, 1) := by decide +kernel
theorem dX11_firstMinuteTo_14 : decode cX11_firstMinuteTo 14 = .ok (.ifCond .le 68, 3) := by decide +kernel
theorem dX11_firstMinuteTo_17 : decode cX11_firstMinuteTo 17 = .ok (.iconst 0, 1) := by decide +kernel
theorem dX11_firstMinuteTo_18 : decode cX11_firstMinuteTo 18 = .ok (.istore 4, 2) := by decide +kernel
theorem dX11_firstMinuteTo_20 : decode cX11_firstMinuteTo 20 = .ok (.iload 4, 2) := by decide +kernel
theorem dX11_firstMinuteTo_22 : decode cX11_firstMinuteTo 22 = .ok (.iconst 2, 1) := by decide +kernel
theorem dX11_firstMinuteTo_23 : decode cX11_firstMinuteTo 23 = .ok (.if_icmp .gt 53, 3) := by decide +kernel
theorem dX11_firstMinuteTo_26 : decode cX11_firstMinuteTo 26 = .ok (.aload_n 0, 1) := by decide +kernel
theorem dX11_firstMinuteTo_27 : decode cX11_firstMinuteTo 27 = .ok (.getfield 46, 3) := by decide +kernel
theorem dX11_firstMinuteTo_30 : decode cX11_firstMinuteTo 30 = .ok (.iload_n 3, 1) := by decide +kernel
theorem dX11_firstMinuteTo_31 : decode cX11_firstMinuteTo 31 = .ok (.iload 4, 2) := by decide +kernel
theorem dX11_firstMinuteTo_33 : decode cX11_firstMinuteTo 33 = .ok (.invokevirtual 270, 3) := by decide +kernel
theorem dX11_firstMinuteTo_36 : decode cX11_firstMinuteTo 36 = .ok (.ifCond .eq 34, 3) := by decide +kernel
theorem dX11_firstMinuteTo_39 : decode cX11_firstMinuteTo 39 = .ok (.aload_n 0, 1) := by decide +kernel
theorem dX11_firstMinuteTo_40 : decode cX11_firstMinuteTo 40 = .ok (.invokevirtual 79, 3) := by decide +kernel
theorem dX11_firstMinuteTo_43 : decode cX11_firstMinuteTo 43 = .ok (.iload_n 3, 1) := by decide +kernel
theorem dX11_firstMinuteTo_44 : decode cX11_firstMinuteTo 44 = .ok (.iload 4, 2) := by decide +kernel
theorem dX11_firstMinuteTo_46 : decode cX11_firstMinuteTo 46 = .ok (.invokevirtual 169, 3) := by decide +kernel
theorem dX11_firstMinuteTo_49 : decode cX11_firstMinuteTo 49 = .ok (.pop, 1) := by decide +kernel
theorem dX11_firstMinuteTo_50 : decode cX11_firstMinuteTo 50 = .ok (.aload_n 0, 1) := by decide +kernel
theorem dX11_firstMinuteTo_51 : decode cX11_firstMinuteTo 51 = .ok (.iconst 0, 1) := by decide +kernel
theorem dX11_firstMinuteTo_52 : decode cX11_firstMinuteTo 52 = .ok (.iload_n 2, 1) := by decide +kernel
theorem dX11_firstMinuteTo_53 : decode cX11_firstMinuteTo 53 = .ok (.iconst 1, 1) := by decide +kernel
theorem dX11_firstMinuteTo_54 : decode cX11_firstMinuteTo 54 = .ok (.isub, 1) := by decide +kernel
theorem dX11_firstMinuteTo_55 : decode cX11_firstMinuteTo 55 = .ok (.invokevirtual 196, 3) := by decide +kernel
theorem dX11_firstMinuteTo_58 : decode cX11_firstMinuteTo 58 = .ok (.iload_n 1, 1) := by decide +kernel
theorem dX11_firstMinuteTo_59 : decode cX11_firstMinuteTo 59 = .ok (.if_icmp .ne 11, 3) := by decide +kernel
theorem dX11_firstMinuteTo_62 : decode cX11_firstMinuteTo 62 = .ok (.bipush 10, 2) := by decide +kernel
theorem dX11_firstMinuteTo_64 : decode cX11_firstMinuteTo 64 = .ok (.iload_n 3, 1) := by decide +kernel
theorem dX11_firstMinuteTo_65 : decode cX11_firstMinuteTo 65 = .ok (.imul, 1) := by decide +kernel
theorem dX11_firstMinuteTo_66 : decode cX11_firstMinuteTo 66 = .ok (.iload 4, 2) := by decide +kernel
theorem dX11_firstMinuteTo_68 : decode cX11_firstMinuteTo 68 = .ok (.iadd, 1) := by decide +kernel
theorem dX11_firstMinuteTo_69 : decode cX11_firstMinuteTo 69 = .ok (.ireturn, 1) := by decide +kernel
theorem dX11_firstMinuteTo_70 : decode cX11_firstMinuteTo 70 = .ok (.iinc 4 1, 3) := by decide +kernel
theorem dX11_firstMinuteTo_73 : decode cX11_firstMinuteTo 73 = .ok (.goto (-53), 3) := by decide +kernel
theorem dX11_firstMinuteTo_76 : decode cX11_firstMinuteTo 76 = .ok (.iinc 3 1, 3) := by decide +kernel
theorem dX11_firstMinuteTo_79 : decode cX11_firstMinuteTo 79 = .ok (.goto (-77), 3) := by decide +kernel
theorem dX11_firstMinuteTo_82 : decode cX11_firstMinuteTo 82 = .ok (.bipush (-4), 2) := by decide +kernel
theorem dX11_firstMinuteTo_84 : decode cX11_firstMinuteTo 84 = .ok (.ireturn, 1) := by decide +kernel
theorem dX11_arrange_0 : decode cX11_arrange 0 = .ok (.iload_n 1, 1) := by decide +kernel
theorem dX11_arrange_1 : decode cX11_arrange 1 = .ok (.aload_n 0, 1) := by decide +kernel
theorem dX11_arrange_2 : decode cX11_arrange 2 = .ok (.getfield 46, 3) := by decide +kernel
theorem dX11_arrange_5 : decode cX11_arrange 5 = .ok (.getfield 161, 3) := by decide +kernel
theorem dX11_arrange_8 : decode cX11_arrange 8 = .ok (.if_icmp .lt 37, 3) := by decide +kernel
theorem dX11_arrange_11 : decode cX11_arrange 11 = .ok (.iload_n 3, 1) := by decide +kernel
theorem dX11_arrange_12 : decode cX11_arrange 12 = .ok (.aload_n 0, 1) := by decide +kernel
theorem dX11_arrange_13 : decode cX11_arrange 13 = .ok (.getfield 214, 3) := by decide +kernel
theorem dX11_arrange_16 : decode cX11_arrange 16 = .ok (.if_icmp .le 28, 3) := by decide +kernel
theorem dX11_arrange_19 : decode cX11_arrange 19 = .ok (.aload_n 0, 1) := by decide +kernel
theorem dX11_arrange_20 : decode cX11_arrange 20 = .ok (.iload_n 3, 1) := by decide +kernel
theorem dX11_arrange_21 : decode cX11_arrange 21 = .ok (.putfield 214, 3) := by decide +kernel
theorem dX11_arrange_24 : decode cX11_arrange 24 = .ok (.aload_n 0, 1) := by decide +kernel
theorem dX11_arrange_25 : decode cX11_arrange 25 = .ok (.getfield 22, 3) := by decide +kernel
theorem dX11_arrange_28 : decode cX11_arrange 28 = .ok (.iconst 0, 1) := by decide +kernel
theorem dX11_arrange_29 : decode cX11_arrange 29 = .ok (.aload_n 0, 1) := by decide +kernel
theorem dX11_arrange_30 : decode cX11_arrange 30 = .ok (.getfield 25, 3) := by decide +kernel
theorem dX11_arrange_33 : decode cX11_arrange 33 = .ok (.iconst 0, 1) := by decide +kernel
theorem dX11_arrange_34 : decode cX11_arrange 34 = .ok (.aload_n 0, 1) := by decide +kernel
theorem dX11_arrange_35 : decode cX11_arrange 35 = .ok (.getfield 46, 3) := by decide +kernel
theorem dX11_arrange_38 : decode cX11_arrange 38 = .ok (.getfield 161, 3) := by decide +kernel
theorem dX11_arrange_41 : decode cX11_arrange 41 = .ok (.invokestatic 321, 3) := by decide +kernel
theorem dX11_arrange_44 : decode cX11_arrange 44 = .ok (.return_, 1) := by decide +kernel
theorem dX11_arrange_45 : decode cX11_arrange 45 = .ok (.iconst 0, 1) := by decide +kernel
theorem dX11_arrange_46 : decode cX11_arrange 46 = .ok (.istore 4, 2) := by decide +kernel
theorem dX11_arrange_48 : decode cX11_arrange 48 = .ok (.iload 4, 2) := by decide +kernel
theorem dX11_arrange_50 : decode cX11_arrange 50 = .ok (.aload_n 0, 1) := by decide +kernel
theorem dX11_arrange_51 : decode cX11_arrange 51 = .ok (.getfield 46, 3) := by decide +kernel
theorem dX11_arrange_54 : decode cX11_arrange 54 = .ok (.getfield 161, 3) := by decide +kernel
theorem dX11_arrange_57 : decode cX11_arrange 57 = .ok (.if_icmp .ge 72, 3) := by decide +kernel
theorem dX11_arrange_60 : decode cX11_arrange 60 = .ok (.iload_n 2, 1) := by decide +kernel
theorem dX11_arrange_61 : decode cX11_arrange 61 = .ok (.iconst 1, 1) := by decide +kernel
theorem dX11_arrange_62 : decode cX11_arrange 62 = .ok (.iload 4, 2) := by decide +kernel
theorem dX11_arrange_64 : decode cX11_arrange 64 = .ok (.ishl, 1) := by decide +kernel
theorem dX11_arrange_65 : decode cX11_arrange 65 = .ok (.iand, 1) := by decide +kernel
theorem dX11_arrange_66 : decode cX11_arrange 66 = .ok (.ifCond .ne 57, 3) := by decide +kernel
theorem dX11_arrange_69 : decode cX11_arrange 69 = .ok (.aload_n 0, 1) := by decide +kernel
theorem dX11_arrange_70 : decode cX11_arrange 70 = .ok (.getfield 22, 3) := by decide +kernel
theorem dX11_arrange_73 : decode cX11_arrange 73 = .ok (.iload_n 1, 1) := by decide +kernel
theorem dX11_arrange_74 : decode cX11_arrange 74 = .ok (.iload 4, 2) := by decide +kernel
theorem dX11_arrange_76 : decode cX11_arrange 76 = .ok (.iastore, 1) := by decide +kernel
theorem dX11_arrange_77 : decode cX11_arrange 77 = .ok (.iload_n 1, 1) := by decide +kernel
theorem dX11_arrange_78 : decode cX11_arrange 78 = .ok (.ifCond .ne 7, 3) := by decide +kernel
theorem dX11_arrange_81 : decode cX11_arrange 81 = .ok (.iconst 0, 1) := by decide +kernel
theorem dX11_arrange_82 : decode cX11_arrange 82 = .ok (.goto 22, 3) := by decide +kernel
theorem dX11_arrange_85 : decode cX11_arrange 85 = .ok (.aload_n 0, 1) := by decide +kernel
theorem dX11_arrange_86 : decode cX11_arrange 86 = .ok (.aload_n 0, 1) := by decide +kernel
theorem dX11_arrange_87 : decode cX11_arrange 87 = .ok (.getfield 22, 3) := by decide +kernel
theorem dX11_arrange_90 : decode cX11_arrange 90 = .ok (.iload_n 1, 1) := by decide +kernel
theorem dX11_arrange_91 : decode cX11_arrange 91 = .ok (.iconst 1, 1) := by decide +kernel
theorem dX11_arrange_92 : decode cX11_arrange 92 = .ok (.isub, 1) := by decide +kernel
theorem dX11_arrange_93 : decode cX11_arrange 93 = .ok (.iaload, 1) := by decide +kernel
theorem dX11_arrange_94 : decode cX11_arrange 94 = .ok (.invokevirtual 351, 3) := by decide +kernel
theorem dX11_arrange_97 : decode cX11_arrange 97 = .ok (.aload_n 0, 1) := by decide +kernel
theorem dX11_arrange_98 : decode cX11_arrange 98 = .ok (.iload 4, 2) := by decide +kernel
theorem dX11_arrange_100 : decode cX11_arrange 100 = .ok (.invokevirtual 351, 3) := by decide +kernel
theorem dX11_arrange_103 : decode cX11_arrange 103 = .ok (.imul, 1) := by decide +kernel
theorem dX11_arrange_104 : decode cX11_arrange 104 = .ok (.istore 5, 2) := by decide +kernel
theorem dX11_arrange_106 : decode cX11_arrange 106 = .ok (.aload_n 0, 1) := by decide +kernel
theorem dX11_arrange_107 : decode cX11_arrange 107 = .ok (.iload_n 1, 1) := by decide +kernel
theorem dX11_arrange_108 : decode cX11_arrange 108 = .ok (.iconst 1, 1) := by decide +kernel
theorem dX11_arrange_109 : decode cX11_arrange 109 = .ok (.iadd, 1) := by decide +kernel
theorem dX11_arrange_110 : decode cX11_arrange 110 = .ok (.iload_n 2, 1) := by decide +kernel
theorem dX11_arrange_111 : decode cX11_arrange 111 = .ok (.iconst 1, 1) := by decide +kernel
theorem dX11_arrange_112 : decode cX11_arrange 112 = .ok (.iload 4, 2) := by decide +kernel
theorem dX11_arrange_114 : decode cX11_arrange 114 = .ok (.ishl, 1) := by decide +kernel
theorem dX11_arrange_115 : decode cX11_arrange 115 = .ok (.ior, 1) := by decide +kernel
theorem dX11_arrange_116 : decode cX11_arrange 116 = .ok (.iload_n 3, 1) := by decide +kernel
theorem dX11_arrange_117 : decode cX11_arrange 117 = .ok (.iload 5, 2) := by decide +kernel
theorem dX11_arrange_119 : decode cX11_arrange 119 = .ok (.iadd, 1) := by decide +kernel
theorem dX11_arrange_120 : decode cX11_arrange 120 = .ok (.invokevirtual 217, 3) := by decide +kernel
theorem dX11_arrange_123 : decode cX11_arrange 123 = .ok (.iinc 4 1, 3) := by decide +kernel
theorem dX11_arrange_126 : decode cX11_arrange 126 = .ok (.goto (-78), 3) := by decide +kernel
theorem dX11_arrange_129 : decode cX11_arrange 129 = .ok (.return_, 1) := by decide +kernel
theorem dX11_passesOf_0 : decode cX11_passesOf 0 = .ok (.aload_n 0, 1) := by decide +kernel
theorem dX11_passesOf_1 : decode cX11_passesOf 1 = .ok (.getfield 46, 3) := by decide +kernel
theorem dX11_passesOf_4 : decode cX11_passesOf 4 = .ok (.getfield 104, 3) := by decide +kernel
theorem dX11_passesOf_7 : decode cX11_passesOf 7 = .ok (.iload_n 1, 1) := by decide +kernel
theorem dX11_passesOf_8 : decode cX11_passesOf 8 = .ok (.aaload, 1) := by decide +kernel
theorem dX11_passesOf_9 : decode cX11_passesOf 9 = .ok (.getfield 108, 3) := by decide +kernel
theorem dX11_passesOf_12 : decode cX11_passesOf 12 = .ok (.getfield 139, 3) := by decide +kernel
theorem dX11_passesOf_15 : decode cX11_passesOf 15 = .ok (.ireturn, 1) := by decide +kernel
theorem dX11_outcomes_0 : decode cX11_outcomes 0 = .ok (.iload 4, 2) := by decide +kernel
theorem dX11_outcomes_2 : decode cX11_outcomes 2 = .ok (.ifCond .gt 14, 3) := by decide +kernel
theorem dX11_outcomes_5 : decode cX11_outcomes 5 = .ok (.iload_n 2, 1) := by decide +kernel
theorem dX11_outcomes_6 : decode cX11_outcomes 6 = .ok (.iload_n 3, 1) := by decide +kernel
theorem dX11_outcomes_7 : decode cX11_outcomes 7 = .ok (.if_icmp .lt 7, 3) := by decide +kernel
theorem dX11_outcomes_10 : decode cX11_outcomes 10 = .ok (.lconst 1, 1) := by decide +kernel
theorem dX11_outcomes_11 : decode cX11_outcomes 11 = .ok (.goto 4, 3) := by decide +kernel
theorem dX11_outcomes_14 : decode cX11_outcomes 14 = .ok (.lconst 0, 1) := by decide +kernel
theorem dX11_outcomes_15 : decode cX11_outcomes 15 = .ok (.lreturn, 1) := by decide +kernel
theorem dX11_outcomes_16 : decode cX11_outcomes 16 = .ok (.iload_n 2, 1) := by decide +kernel
theorem dX11_outcomes_17 : decode cX11_outcomes 17 = .ok (.bipush 7, 2) := by decide +kernel
theorem dX11_outcomes_19 : decode cX11_outcomes 19 = .ok (.if_icmp .lt 21, 3) := by decide +kernel
theorem dX11_outcomes_22 : decode cX11_outcomes 22 = .ok (.iload 5, 2) := by decide +kernel
theorem dX11_outcomes_24 : decode cX11_outcomes 24 = .ok (.i2l, 1) := by decide +kernel
theorem dX11_outcomes_25 : decode cX11_outcomes 25 = .ok (.aload_n 0, 1) := by decide +kernel
theorem dX11_outcomes_26 : decode cX11_outcomes 26 = .ok (.iload_n 1, 1) := by decide +kernel
theorem dX11_outcomes_27 : decode cX11_outcomes 27 = .ok (.iload_n 2, 1) := by decide +kernel
theorem dX11_outcomes_28 : decode cX11_outcomes 28 = .ok (.iload_n 3, 1) := by decide +kernel
theorem dX11_outcomes_29 : decode cX11_outcomes 29 = .ok (.iload 4, 2) := by decide +kernel
theorem dX11_outcomes_31 : decode cX11_outcomes 31 = .ok (.iconst 1, 1) := by decide +kernel
theorem dX11_outcomes_32 : decode cX11_outcomes 32 = .ok (.isub, 1) := by decide +kernel
theorem dX11_outcomes_33 : decode cX11_outcomes 33 = .ok (.iload 5, 2) := by decide +kernel
theorem dX11_outcomes_35 : decode cX11_outcomes 35 = .ok (.invokestatic 243, 3) := by decide +kernel
theorem dX11_outcomes_38 : decode cX11_outcomes 38 = .ok (.lmul, 1) := by decide +kernel
theorem dX11_outcomes_39 : decode cX11_outcomes 39 = .ok (.lreturn, 1) := by decide +kernel
theorem dX11_outcomes_40 : decode cX11_outcomes 40 = .ok (.iconst 0, 1) := by decide +kernel
theorem dX11_outcomes_41 : decode cX11_outcomes 41 = .ok (.iload_n 1, 1) := by decide +kernel
theorem dX11_outcomes_42 : decode cX11_outcomes 42 = .ok (.aload_n 0, 1) := by decide +kernel
theorem dX11_outcomes_43 : decode cX11_outcomes 43 = .ok (.getfield 133, 3) := by decide +kernel
theorem dX11_outcomes_46 : decode cX11_outcomes 46 = .ok (.isub, 1) := by decide +kernel
theorem dX11_outcomes_47 : decode cX11_outcomes 47 = .ok (.invokestatic 233, 3) := by decide +kernel
theorem dX11_outcomes_50 : decode cX11_outcomes 50 = .ok (.istore 6, 2) := by decide +kernel
theorem dX11_outcomes_52 : decode cX11_outcomes 52 = .ok (.aload_n 0, 1) := by decide +kernel
theorem dX11_outcomes_53 : decode cX11_outcomes 53 = .ok (.iload 6, 2) := by decide +kernel
theorem dX11_outcomes_55 : decode cX11_outcomes 55 = .ok (.iload_n 2, 1) := by decide +kernel
theorem dX11_outcomes_56 : decode cX11_outcomes 56 = .ok (.iload_n 3, 1) := by decide +kernel
theorem dX11_outcomes_57 : decode cX11_outcomes 57 = .ok (.iload 4, 2) := by decide +kernel
theorem dX11_outcomes_59 : decode cX11_outcomes 59 = .ok (.iconst 1, 1) := by decide +kernel
theorem dX11_outcomes_60 : decode cX11_outcomes 60 = .ok (.isub, 1) := by decide +kernel
theorem dX11_outcomes_61 : decode cX11_outcomes 61 = .ok (.iload 5, 2) := by decide +kernel
theorem dX11_outcomes_63 : decode cX11_outcomes 63 = .ok (.invokestatic 243, 3) := by decide +kernel
theorem dX11_outcomes_66 : decode cX11_outcomes 66 = .ok (.lstore 7, 2) := by decide +kernel
theorem dX11_outcomes_68 : decode cX11_outcomes 68 = .ok (.iload_n 1, 1) := by decide +kernel
theorem dX11_outcomes_69 : decode cX11_outcomes 69 = .ok (.aload_n 0, 1) := by decide +kernel
theorem dX11_outcomes_70 : decode cX11_outcomes 70 = .ok (.iload_n 2, 1) := by decide +kernel
theorem dX11_outcomes_71 : decode cX11_outcomes 71 = .ok (.invokevirtual 354, 3) := by decide +kernel
theorem dX11_outcomes_74 : decode cX11_outcomes 74 = .ok (.if_icmp .ge 10, 3) := by decide +kernel
theorem dX11_outcomes_77 : decode cX11_outcomes 77 = .ok (.iload 5, 2) := by decide +kernel
theorem dX11_outcomes_79 : decode cX11_outcomes 79 = .ok (.i2l, 1) := by decide +kernel
theorem dX11_outcomes_80 : decode cX11_outcomes 80 = .ok (.lload 7, 2) := by decide +kernel
theorem dX11_outcomes_82 : decode cX11_outcomes 82 = .ok (.lmul, 1) := by decide +kernel
theorem dX11_outcomes_83 : decode cX11_outcomes 83 = .ok (.lreturn, 1) := by decide +kernel
theorem dX11_outcomes_84 : decode cX11_outcomes 84 = .ok (.lload 7, 2) := by decide +kernel
theorem dX11_outcomes_86 : decode cX11_outcomes 86 = .ok (.iload 5, 2) := by decide +kernel
theorem dX11_outcomes_88 : decode cX11_outcomes 88 = .ok (.iconst 1, 1) := by decide +kernel
theorem dX11_outcomes_89 : decode cX11_outcomes 89 = .ok (.isub, 1) := by decide +kernel
theorem dX11_outcomes_90 : decode cX11_outcomes 90 = .ok (.i2l, 1) := by decide +kernel
theorem dX11_outcomes_91 : decode cX11_outcomes 91 = .ok (.aload_n 0, 1) := by decide +kernel
theorem dX11_outcomes_92 : decode cX11_outcomes 92 = .ok (.iload_n 1, 1) := by decide +kernel
theorem dX11_outcomes_93 : decode cX11_outcomes 93 = .ok (.iload_n 2, 1) := by decide +kernel
theorem dX11_outcomes_94 : decode cX11_outcomes 94 = .ok (.iconst 1, 1) := by decide +kernel
theorem dX11_outcomes_95 : decode cX11_outcomes 95 = .ok (.iadd, 1) := by decide +kernel
theorem dX11_outcomes_96 : decode cX11_outcomes 96 = .ok (.iload_n 3, 1) := by decide +kernel
theorem dX11_outcomes_97 : decode cX11_outcomes 97 = .ok (.iload 4, 2) := by decide +kernel
theorem dX11_outcomes_99 : decode cX11_outcomes 99 = .ok (.iconst 1, 1) := by decide +kernel
theorem dX11_outcomes_100 : decode cX11_outcomes 100 = .ok (.isub, 1) := by decide +kernel
theorem dX11_outcomes_101 : decode cX11_outcomes 101 = .ok (.iload 5, 2) := by decide +kernel
theorem dX11_outcomes_103 : decode cX11_outcomes 103 = .ok (.invokestatic 243, 3) := by decide +kernel
theorem dX11_outcomes_106 : decode cX11_outcomes 106 = .ok (.lmul, 1) := by decide +kernel
theorem dX11_outcomes_107 : decode cX11_outcomes 107 = .ok (.ladd, 1) := by decide +kernel
theorem dX11_outcomes_108 : decode cX11_outcomes 108 = .ok (.lreturn, 1) := by decide +kernel
theorem dX11_inLeastTerms_0 : decode cX11_inLeastTerms 0 = .ok (.lload_n 2, 1) := by decide +kernel
theorem dX11_inLeastTerms_1 : decode cX11_inLeastTerms 1 = .ok (.lstore 5, 2) := by decide +kernel
theorem dX11_inLeastTerms_3 : decode cX11_inLeastTerms 3 = .ok (.lload_n 0, 1) := by decide +kernel
theorem dX11_inLeastTerms_4 : decode cX11_inLeastTerms 4 = .ok (.lstore 7, 2) := by decide +kernel
theorem dX11_inLeastTerms_6 : decode cX11_inLeastTerms 6 = .ok (.iconst 0, 1) := by decide +kernel
theorem dX11_inLeastTerms_7 : decode cX11_inLeastTerms 7 = .ok (.istore 9, 2) := by decide +kernel
theorem dX11_inLeastTerms_9 : decode cX11_inLeastTerms 9 = .ok (.iload 9, 2) := by decide +kernel
theorem dX11_inLeastTerms_11 : decode cX11_inLeastTerms 11 = .ok (.bipush 100, 2) := by decide +kernel
theorem dX11_inLeastTerms_13 : decode cX11_inLeastTerms 13 = .ok (.if_icmp .ge 31, 3) := by decide +kernel
theorem dX11_inLeastTerms_16 : decode cX11_inLeastTerms 16 = .ok (.lload 7, 2) := by decide +kernel
theorem dX11_inLeastTerms_18 : decode cX11_inLeastTerms 18 = .ok (.lconst 0, 1) := by decide +kernel
theorem dX11_inLeastTerms_19 : decode cX11_inLeastTerms 19 = .ok (.lcmp, 1) := by decide +kernel
theorem dX11_inLeastTerms_20 : decode cX11_inLeastTerms 20 = .ok (.ifCond .eq 24, 3) := by decide +kernel
theorem dX11_inLeastTerms_23 : decode cX11_inLeastTerms 23 = .ok (.lload 5, 2) := by decide +kernel
theorem dX11_inLeastTerms_25 : decode cX11_inLeastTerms 25 = .ok (.lload 7, 2) := by decide +kernel
theorem dX11_inLeastTerms_27 : decode cX11_inLeastTerms 27 = .ok (.lrem, 1) := by decide +kernel
theorem dX11_inLeastTerms_28 : decode cX11_inLeastTerms 28 = .ok (.lstore 10, 2) := by decide +kernel
theorem dX11_inLeastTerms_30 : decode cX11_inLeastTerms 30 = .ok (.lload 7, 2) := by decide +kernel
theorem dX11_inLeastTerms_32 : decode cX11_inLeastTerms 32 = .ok (.lstore 5, 2) := by decide +kernel
theorem dX11_inLeastTerms_34 : decode cX11_inLeastTerms 34 = .ok (.lload 10, 2) := by decide +kernel
theorem dX11_inLeastTerms_36 : decode cX11_inLeastTerms 36 = .ok (.lstore 7, 2) := by decide +kernel
theorem dX11_inLeastTerms_38 : decode cX11_inLeastTerms 38 = .ok (.iinc 9 1, 3) := by decide +kernel
theorem dX11_inLeastTerms_41 : decode cX11_inLeastTerms 41 = .ok (.goto (-32), 3) := by decide +kernel
theorem dX11_inLeastTerms_44 : decode cX11_inLeastTerms 44 = .ok (.lload 5, 2) := by decide +kernel
theorem dX11_inLeastTerms_46 : decode cX11_inLeastTerms 46 = .ok (.lconst 0, 1) := by decide +kernel
theorem dX11_inLeastTerms_47 : decode cX11_inLeastTerms 47 = .ok (.lcmp, 1) := by decide +kernel
theorem dX11_inLeastTerms_48 : decode cX11_inLeastTerms 48 = .ok (.ifCond .ne 7, 3) := by decide +kernel
theorem dX11_inLeastTerms_51 : decode cX11_inLeastTerms 51 = .ok (.ldc2_w 241, 3) := by decide +kernel
theorem dX11_inLeastTerms_54 : decode cX11_inLeastTerms 54 = .ok (.lreturn, 1) := by decide +kernel
theorem dX11_inLeastTerms_55 : decode cX11_inLeastTerms 55 = .ok (.iload 4, 2) := by decide +kernel
theorem dX11_inLeastTerms_57 : decode cX11_inLeastTerms 57 = .ok (.ifCond .ne 10, 3) := by decide +kernel
theorem dX11_inLeastTerms_60 : decode cX11_inLeastTerms 60 = .ok (.lload_n 0, 1) := by decide +kernel
theorem dX11_inLeastTerms_61 : decode cX11_inLeastTerms 61 = .ok (.lload 5, 2) := by decide +kernel
theorem dX11_inLeastTerms_63 : decode cX11_inLeastTerms 63 = .ok (.ldiv, 1) := by decide +kernel
theorem dX11_inLeastTerms_64 : decode cX11_inLeastTerms 64 = .ok (.goto 7, 3) := by decide +kernel
theorem dX11_inLeastTerms_67 : decode cX11_inLeastTerms 67 = .ok (.lload_n 2, 1) := by decide +kernel
theorem dX11_inLeastTerms_68 : decode cX11_inLeastTerms 68 = .ok (.lload 5, 2) := by decide +kernel
theorem dX11_inLeastTerms_70 : decode cX11_inLeastTerms 70 = .ok (.ldiv, 1) := by decide +kernel
theorem dX11_inLeastTerms_71 : decode cX11_inLeastTerms 71 = .ok (.lreturn, 1) := by decide +kernel
theorem dX11_tellsHolding_0 : decode cX11_tellsHolding 0 = .ok (.iconst 0, 1) := by decide +kernel
theorem dX11_tellsHolding_1 : decode cX11_tellsHolding 1 = .ok (.istore_n 3, 1) := by decide +kernel
theorem dX11_tellsHolding_2 : decode cX11_tellsHolding 2 = .ok (.iload_n 3, 1) := by decide +kernel
theorem dX11_tellsHolding_3 : decode cX11_tellsHolding 3 = .ok (.aload_n 0, 1) := by decide +kernel
theorem dX11_tellsHolding_4 : decode cX11_tellsHolding 4 = .ok (.invokevirtual 83, 3) := by decide +kernel
theorem dX11_tellsHolding_7 : decode cX11_tellsHolding 7 = .ok (.if_icmp .ge 29, 3) := by decide +kernel
theorem dX11_tellsHolding_10 : decode cX11_tellsHolding 10 = .ok (.aload_n 0, 1) := by decide +kernel
theorem dX11_tellsHolding_11 : decode cX11_tellsHolding 11 = .ok (.iload_n 3, 1) := by decide +kernel
theorem dX11_tellsHolding_12 : decode cX11_tellsHolding 12 = .ok (.invokevirtual 90, 3) := by decide +kernel
theorem dX11_tellsHolding_15 : decode cX11_tellsHolding 15 = .ok (.bipush 20, 2) := by decide +kernel
theorem dX11_tellsHolding_17 : decode cX11_tellsHolding 17 = .ok (.iload_n 1, 1) := by decide +kernel
theorem dX11_tellsHolding_18 : decode cX11_tellsHolding 18 = .ok (.iload_n 3, 1) := by decide +kernel
theorem dX11_tellsHolding_19 : decode cX11_tellsHolding 19 = .ok (.iload_n 2, 1) := by decide +kernel
theorem dX11_tellsHolding_20 : decode cX11_tellsHolding 20 = .ok (.imul, 1) := by decide +kernel
theorem dX11_tellsHolding_21 : decode cX11_tellsHolding 21 = .ok (.iadd, 1) := by decide +kernel
theorem dX11_tellsHolding_22 : decode cX11_tellsHolding 22 = .ok (.invokestatic 238, 3) := by decide +kernel
theorem dX11_tellsHolding_25 : decode cX11_tellsHolding 25 = .ok (.if_icmp .eq 5, 3) := by decide +kernel
theorem dX11_tellsHolding_28 : decode cX11_tellsHolding 28 = .ok (.iconst 0, 1) := by decide +kernel
theorem dX11_tellsHolding_29 : decode cX11_tellsHolding 29 = .ok (.ireturn, 1) := by decide +kernel
theorem dX11_tellsHolding_30 : decode cX11_tellsHolding 30 = .ok (.iinc 3 1, 3) := by decide +kernel
theorem dX11_tellsHolding_33 : decode cX11_tellsHolding 33 = .ok (.goto (-31), 3) := by decide +kernel
theorem dX11_tellsHolding_36 : decode cX11_tellsHolding 36 = .ok (.iconst 1, 1) := by decide +kernel
theorem dX11_tellsHolding_37 : decode cX11_tellsHolding 37 = .ok (.ireturn, 1) := by decide +kernel
theorem dX11_staysWith_0 : decode cX11_staysWith 0 = .ok (.aload_n 0, 1) := by decide +kernel
theorem dX11_staysWith_1 : decode cX11_staysWith 1 = .ok (.iload_n 1, 1) := by decide +kernel
theorem dX11_staysWith_2 : decode cX11_staysWith 2 = .ok (.iload_n 2, 1) := by decide +kernel
theorem dX11_staysWith_3 : decode cX11_staysWith 3 = .ok (.invokestatic 357, 3) := by decide +kernel
theorem dX11_staysWith_6 : decode cX11_staysWith 6 = .ok (.aload_n 0, 1) := by decide +kernel
theorem dX11_staysWith_7 : decode cX11_staysWith 7 = .ok (.iconst 1, 1) := by decide +kernel
theorem dX11_staysWith_8 : decode cX11_staysWith 8 = .ok (.iload_n 1, 1) := by decide +kernel
theorem dX11_staysWith_9 : decode cX11_staysWith 9 = .ok (.isub, 1) := by decide +kernel
theorem dX11_staysWith_10 : decode cX11_staysWith 10 = .ok (.iload_n 2, 1) := by decide +kernel
theorem dX11_staysWith_11 : decode cX11_staysWith 11 = .ok (.invokestatic 357, 3) := by decide +kernel
theorem dX11_staysWith_14 : decode cX11_staysWith 14 = .ok (.if_icmp .lt 7, 3) := by decide +kernel
theorem dX11_staysWith_17 : decode cX11_staysWith 17 = .ok (.iconst 1, 1) := by decide +kernel
theorem dX11_staysWith_18 : decode cX11_staysWith 18 = .ok (.goto 4, 3) := by decide +kernel
theorem dX11_staysWith_21 : decode cX11_staysWith 21 = .ok (.iconst 0, 1) := by decide +kernel
theorem dX11_staysWith_22 : decode cX11_staysWith 22 = .ok (.ireturn, 1) := by decide +kernel
theorem dX11_daring_0 : decode cX11_daring 0 = .ok (.iload_n 1, 1) := by decide +kernel
theorem dX11_daring_1 : decode cX11_daring 1 = .ok (.ifCond .ne 6, 3) := by decide +kernel
theorem dX11_daring_4 : decode cX11_daring 4 = .ok (.iload_n 2, 1) := by decide +kernel
theorem dX11_daring_5 : decode cX11_daring 5 = .ok (.ineg, 1) := by decide +kernel
theorem dX11_daring_6 : decode cX11_daring 6 = .ok (.ireturn, 1) := by decide +kernel
theorem dX11_daring_7 : decode cX11_daring 7 = .ok (.iconst 1, 1) := by decide +kernel
theorem dX11_daring_8 : decode cX11_daring 8 = .ok (.iload_n 2, 1) := by decide +kernel
theorem dX11_daring_9 : decode cX11_daring 9 = .ok (.iadd, 1) := by decide +kernel
theorem dX11_daring_10 : decode cX11_daring 10 = .ok (.aload_n 0, 1) := by decide +kernel
theorem dX11_daring_11 : decode cX11_daring 11 = .ok (.invokevirtual 163, 3) := by decide +kernel
theorem dX11_daring_14 : decode cX11_daring 14 = .ok (.ifCond .ne 10, 3) := by decide +kernel
theorem dX11_daring_17 : decode cX11_daring 17 = .ok (.aload_n 0, 1) := by decide +kernel
theorem dX11_daring_18 : decode cX11_daring 18 = .ok (.invokevirtual 224, 3) := by decide +kernel
theorem dX11_daring_21 : decode cX11_daring 21 = .ok (.ifCond .eq 7, 3) := by decide +kernel
theorem dX11_daring_24 : decode cX11_daring 24 = .ok (.iconst 0, 1) := by decide +kernel
theorem dX11_daring_25 : decode cX11_daring 25 = .ok (.goto 10, 3) := by decide +kernel
theorem dX11_daring_28 : decode cX11_daring 28 = .ok (.aload_n 0, 1) := by decide +kernel
theorem dX11_daring_29 : decode cX11_daring 29 = .ok (.getfield 108, 3) := by decide +kernel
theorem dX11_daring_32 : decode cX11_daring 32 = .ok (.getfield 133, 3) := by decide +kernel
theorem dX11_daring_35 : decode cX11_daring 35 = .ok (.isub, 1) := by decide +kernel
theorem dX11_daring_36 : decode cX11_daring 36 = .ok (.ireturn, 1) := by decide +kernel
theorem dX11_seedBehind_0 : decode cX11_seedBehind 0 = .ok (.iload_n 0, 1) := by decide +kernel
theorem dX11_seedBehind_1 : decode cX11_seedBehind 1 = .ok (.ldc_w 361, 3) := by decide +kernel
theorem dX11_seedBehind_4 : decode cX11_seedBehind 4 = .ok (.imul, 1) := by decide +kernel
theorem dX11_seedBehind_5 : decode cX11_seedBehind 5 = .ok (.sipush 12345, 3) := by decide +kernel
theorem dX11_seedBehind_8 : decode cX11_seedBehind 8 = .ok (.iadd, 1) := by decide +kernel
theorem dX11_seedBehind_9 : decode cX11_seedBehind 9 = .ok (.ireturn, 1) := by decide +kernel
theorem dX11_below_0 : decode cX11_below 0 = .ok (.iload_n 0, 1) := by decide +kernel
theorem dX11_below_1 : decode cX11_below 1 = .ok (.ifCond .gt 7, 3) := by decide +kernel
theorem dX11_below_4 : decode cX11_below 4 = .ok (.iconst 0, 1) := by decide +kernel
theorem dX11_below_5 : decode cX11_below 5 = .ok (.goto 14, 3) := by decide +kernel
theorem dX11_below_8 : decode cX11_below 8 = .ok (.iload_n 1, 1) := by decide +kernel
theorem dX11_below_9 : decode cX11_below 9 = .ok (.ldc_w 362, 3) := by decide +kernel
theorem dX11_below_12 : decode cX11_below 12 = .ok (.iand, 1) := by decide +kernel
theorem dX11_below_13 : decode cX11_below 13 = .ok (.ldc_w 363, 3) := by decide +kernel
theorem dX11_below_16 : decode cX11_below 16 = .ok (.idiv, 1) := by decide +kernel
theorem dX11_below_17 : decode cX11_below 17 = .ok (.iload_n 0, 1) := by decide +kernel
theorem dX11_below_18 : decode cX11_below 18 = .ok (.irem, 1) := by decide +kernel
theorem dX11_below_19 : decode cX11_below 19 = .ok (.ireturn, 1) := by decide +kernel
theorem dX12_init_0 : decode cX12_init 0 = .ok (.aload_n 0, 1) := by decide +kernel
theorem dX12_init_1 : decode cX12_init 1 = .ok (.invokespecial 1, 3) := by decide +kernel
theorem dX12_init_4 : decode cX12_init 4 = .ok (.aload_n 0, 1) := by decide +kernel
theorem dX12_init_5 : decode cX12_init 5 = .ok (.bipush 6, 2) := by decide +kernel
theorem dX12_init_7 : decode cX12_init 7 = .ok (.newarray .int, 2) := by decide +kernel
theorem dX12_init_9 : decode cX12_init 9 = .ok (.putfield 7, 3) := by decide +kernel
theorem dX12_init_12 : decode cX12_init 12 = .ok (.aload_n 0, 1) := by decide +kernel
theorem dX12_init_13 : decode cX12_init 13 = .ok (.bipush 6, 2) := by decide +kernel
theorem dX12_init_15 : decode cX12_init 15 = .ok (.newarray .int, 2) := by decide +kernel
theorem dX12_init_17 : decode cX12_init 17 = .ok (.putfield 13, 3) := by decide +kernel
theorem dX12_init_20 : decode cX12_init 20 = .ok (.aload_n 0, 1) := by decide +kernel
theorem dX12_init_21 : decode cX12_init 21 = .ok (.bipush 6, 2) := by decide +kernel
theorem dX12_init_23 : decode cX12_init 23 = .ok (.newarray .int, 2) := by decide +kernel
theorem dX12_init_25 : decode cX12_init 25 = .ok (.putfield 16, 3) := by decide +kernel
theorem dX12_init_28 : decode cX12_init 28 = .ok (.aload_n 0, 1) := by decide +kernel
theorem dX12_init_29 : decode cX12_init 29 = .ok (.bipush 6, 2) := by decide +kernel
theorem dX12_init_31 : decode cX12_init 31 = .ok (.newarray .int, 2) := by decide +kernel
theorem dX12_init_33 : decode cX12_init 33 = .ok (.putfield 19, 3) := by decide +kernel
theorem dX12_init_36 : decode cX12_init 36 = .ok (.aload_n 0, 1) := by decide +kernel
theorem dX12_init_37 : decode cX12_init 37 = .ok (.bipush 6, 2) := by decide +kernel
theorem dX12_init_39 : decode cX12_init 39 = .ok (.newarray .int, 2) := by decide +kernel
theorem dX12_init_41 : decode cX12_init 41 = .ok (.putfield 22, 3) := by decide +kernel
theorem dX12_init_44 : decode cX12_init 44 = .ok (.aload_n 0, 1) := by decide +kernel
theorem dX12_init_45 : decode cX12_init 45 = .ok (.bipush 8, 2) := by decide +kernel
theorem dX12_init_47 : decode cX12_init 47 = .ok (.newarray .int, 2) := by decide +kernel
theorem dX12_init_49 : decode cX12_init 49 = .ok (.putfield 25, 3) := by decide +kernel
theorem dX12_init_52 : decode cX12_init 52 = .ok (.aload_n 0, 1) := by decide +kernel
theorem dX12_init_53 : decode cX12_init 53 = .ok (.bipush 8, 2) := by decide +kernel
theorem dX12_init_55 : decode cX12_init 55 = .ok (.newarray .int, 2) := by decide +kernel
theorem dX12_init_57 : decode cX12_init 57 = .ok (.putfield 28, 3) := by decide +kernel
theorem dX12_init_60 : decode cX12_init 60 = .ok (.aload_n 0, 1) := by decide +kernel
theorem dX12_init_61 : decode cX12_init 61 = .ok (.bipush 8, 2) := by decide +kernel
theorem dX12_init_63 : decode cX12_init 63 = .ok (.newarray .int, 2) := by decide +kernel
theorem dX12_init_65 : decode cX12_init 65 = .ok (.putfield 31, 3) := by decide +kernel
theorem dX12_init_68 : decode cX12_init 68 = .ok (.aload_n 0, 1) := by decide +kernel
theorem dX12_init_69 : decode cX12_init 69 = .ok (.bipush 8, 2) := by decide +kernel
theorem dX12_init_71 : decode cX12_init 71 = .ok (.newarray .int, 2) := by decide +kernel
theorem dX12_init_73 : decode cX12_init 73 = .ok (.putfield 34, 3) := by decide +kernel
theorem dX12_init_76 : decode cX12_init 76 = .ok (.aload_n 0, 1) := by decide +kernel
theorem dX12_init_77 : decode cX12_init 77 = .ok (.bipush 8, 2) := by decide +kernel
theorem dX12_init_79 : decode cX12_init 79 = .ok (.newarray .int, 2) := by decide +kernel
theorem dX12_init_81 : decode cX12_init 81 = .ok (.putfield 37, 3) := by decide +kernel
theorem dX12_init_84 : decode cX12_init 84 = .ok (.aload_n 0, 1) := by decide +kernel
theorem dX12_init_85 : decode cX12_init 85 = .ok (.sipush 800, 3) := by decide +kernel
theorem dX12_init_88 : decode cX12_init 88 = .ok (.newarray .long, 2) := by decide +kernel
theorem dX12_init_90 : decode cX12_init 90 = .ok (.putfield 40, 3) := by decide +kernel
theorem dX12_init_93 : decode cX12_init 93 = .ok (.aload_n 0, 1) := by decide +kernel
theorem dX12_init_94 : decode cX12_init 94 = .ok (.bipush 51, 2) := by decide +kernel
theorem dX12_init_96 : decode cX12_init 96 = .ok (.newarray .int, 2) := by decide +kernel
theorem dX12_init_98 : decode cX12_init 98 = .ok (.putfield 44, 3) := by decide +kernel
theorem dX12_init_101 : decode cX12_init 101 = .ok (.aload_n 0, 1) := by decide +kernel
theorem dX12_init_102 : decode cX12_init 102 = .ok (.bipush 51, 2) := by decide +kernel
theorem dX12_init_104 : decode cX12_init 104 = .ok (.newarray .int, 2) := by decide +kernel
theorem dX12_init_106 : decode cX12_init 106 = .ok (.putfield 47, 3) := by decide +kernel
theorem dX12_init_109 : decode cX12_init 109 = .ok (.aload_n 0, 1) := by decide +kernel
theorem dX12_init_110 : decode cX12_init 110 = .ok (.sipush 153, 3) := by decide +kernel
theorem dX12_init_113 : decode cX12_init 113 = .ok (.newarray .int, 2) := by decide +kernel
theorem dX12_init_115 : decode cX12_init 115 = .ok (.putfield 50, 3) := by decide +kernel
theorem dX12_init_118 : decode cX12_init 118 = .ok (.aload_n 0, 1) := by decide +kernel
theorem dX12_init_119 : decode cX12_init 119 = .ok (.bipush 32, 2) := by decide +kernel
theorem dX12_init_121 : decode cX12_init 121 = .ok (.newarray .int, 2) := by decide +kernel
theorem dX12_init_123 : decode cX12_init 123 = .ok (.putfield 53, 3) := by decide +kernel
theorem dX12_init_126 : decode cX12_init 126 = .ok (.aload_n 0, 1) := by decide +kernel
theorem dX12_init_127 : decode cX12_init 127 = .ok (.bipush 32, 2) := by decide +kernel
theorem dX12_init_129 : decode cX12_init 129 = .ok (.newarray .int, 2) := by decide +kernel
theorem dX12_init_131 : decode cX12_init 131 = .ok (.putfield 56, 3) := by decide +kernel
theorem dX12_init_134 : decode cX12_init 134 = .ok (.aload_n 0, 1) := by decide +kernel
theorem dX12_init_135 : decode cX12_init 135 = .ok (.sipush 168, 3) := by decide +kernel
theorem dX12_init_138 : decode cX12_init 138 = .ok (.newarray .int, 2) := by decide +kernel
theorem dX12_init_140 : decode cX12_init 140 = .ok (.putfield 59, 3) := by decide +kernel
theorem dX12_init_143 : decode cX12_init 143 = .ok (.aload_n 0, 1) := by decide +kernel
theorem dX12_init_144 : decode cX12_init 144 = .ok (.bipush 96, 2) := by decide +kernel
theorem dX12_init_146 : decode cX12_init 146 = .ok (.newarray .int, 2) := by decide +kernel
theorem dX12_init_148 : decode cX12_init 148 = .ok (.putfield 62, 3) := by decide +kernel
theorem dX12_init_151 : decode cX12_init 151 = .ok (.aload_n 0, 1) := by decide +kernel
theorem dX12_init_152 : decode cX12_init 152 = .ok (.bipush 32, 2) := by decide +kernel
theorem dX12_init_154 : decode cX12_init 154 = .ok (.newarray .int, 2) := by decide +kernel
theorem dX12_init_156 : decode cX12_init 156 = .ok (.putfield 65, 3) := by decide +kernel
theorem dX12_init_159 : decode cX12_init 159 = .ok (.aload_n 0, 1) := by decide +kernel
theorem dX12_init_160 : decode cX12_init 160 = .ok (.iconst 3, 1) := by decide +kernel
theorem dX12_init_161 : decode cX12_init 161 = .ok (.newarray .int, 2) := by decide +kernel
theorem dX12_init_163 : decode cX12_init 163 = .ok (.putfield 68, 3) := by decide +kernel
theorem dX12_init_166 : decode cX12_init 166 = .ok (.aload_n 0, 1) := by decide +kernel
theorem dX12_init_167 : decode cX12_init 167 = .ok (.bipush 6, 2) := by decide +kernel
theorem dX12_init_169 : decode cX12_init 169 = .ok (.newarray .int, 2) := by decide +kernel
theorem dX12_init_171 : decode cX12_init 171 = .ok (.putfield 71, 3) := by decide +kernel
theorem dX12_init_174 : decode cX12_init 174 = .ok (.aload_n 0, 1) := by decide +kernel
theorem dX12_init_175 : decode cX12_init 175 = .ok (.bipush 100, 2) := by decide +kernel
theorem dX12_init_177 : decode cX12_init 177 = .ok (.newarray .long, 2) := by decide +kernel
theorem dX12_init_179 : decode cX12_init 179 = .ok (.putfield 74, 3) := by decide +kernel
theorem dX12_init_182 : decode cX12_init 182 = .ok (.aload_n 0, 1) := by decide +kernel
theorem dX12_init_183 : decode cX12_init 183 = .ok (.iconst 0, 1) := by decide +kernel
theorem dX12_init_184 : decode cX12_init 184 = .ok (.putfield 77, 3) := by decide +kernel
theorem dX12_init_187 : decode cX12_init 187 = .ok (.return_, 1) := by decide +kernel
theorem dX12_thrown_0 : decode cX12_thrown 0 = .ok (.aload_n 0, 1) := by decide +kernel
theorem dX12_thrown_1 : decode cX12_thrown 1 = .ok (.getfield 77, 3) := by decide +kernel
theorem dX12_thrown_4 : decode cX12_thrown 4 = .ok (.ireturn, 1) := by decide +kernel
theorem dX12_in_0 : decode cX12_in 0 = .ok (.lload_n 0, 1) := by decide +kernel
theorem dX12_in_1 : decode cX12_in 1 = .ok (.lload_n 2, 1) := by decide +kernel
theorem dX12_in_2 : decode cX12_in 2 = .ok (.lcmp, 1) := by decide +kernel
theorem dX12_in_3 : decode cX12_in 3 = .ok (.ifCond .lt 14, 3) := by decide +kernel
theorem dX12_in_6 : decode cX12_in 6 = .ok (.lload_n 0, 1) := by decide +kernel
theorem dX12_in_7 : decode cX12_in 7 = .ok (.lload 4, 2) := by decide +kernel
theorem dX12_in_9 : decode cX12_in 9 = .ok (.lcmp, 1) := by decide +kernel
theorem dX12_in_10 : decode cX12_in 10 = .ok (.ifCond .gt 7, 3) := by decide +kernel
theorem dX12_in_13 : decode cX12_in 13 = .ok (.iconst 1, 1) := by decide +kernel
theorem dX12_in_14 : decode cX12_in 14 = .ok (.goto 4, 3) := by decide +kernel
theorem dX12_in_17 : decode cX12_in 17 = .ok (.iconst 0, 1) := by decide +kernel
theorem dX12_in_18 : decode cX12_in 18 = .ok (.ireturn, 1) := by decide +kernel
theorem dX12_hasBit_0 : decode cX12_hasBit 0 = .ok (.iload_n 0, 1) := by decide +kernel
theorem dX12_hasBit_1 : decode cX12_hasBit 1 = .ok (.iload_n 1, 1) := by decide +kernel
theorem dX12_hasBit_2 : decode cX12_hasBit 2 = .ok (.ishr, 1) := by decide +kernel
theorem dX12_hasBit_3 : decode cX12_hasBit 3 = .ok (.iconst 1, 1) := by decide +kernel
theorem dX12_hasBit_4 : decode cX12_hasBit 4 = .ok (.iand, 1) := by decide +kernel
theorem dX12_hasBit_5 : decode cX12_hasBit 5 = .ok (.iconst 1, 1) := by decide +kernel
theorem dX12_hasBit_6 : decode cX12_hasBit 6 = .ok (.if_icmp .ne 7, 3) := by decide +kernel
theorem dX12_hasBit_9 : decode cX12_hasBit 9 = .ok (.iconst 1, 1) := by decide +kernel
theorem dX12_hasBit_10 : decode cX12_hasBit 10 = .ok (.goto 4, 3) := by decide +kernel
theorem dX12_hasBit_13 : decode cX12_hasBit 13 = .ok (.iconst 0, 1) := by decide +kernel
theorem dX12_hasBit_14 : decode cX12_hasBit 14 = .ok (.ireturn, 1) := by decide +kernel
theorem dX12_onesOf_0 : decode cX12_onesOf 0 = .ok (.iconst 0, 1) := by decide +kernel
theorem dX12_onesOf_1 : decode cX12_onesOf 1 = .ok (.istore_n 1, 1) := by decide +kernel
theorem dX12_onesOf_2 : decode cX12_onesOf 2 = .ok (.iload_n 0, 1) := by decide +kernel
theorem dX12_onesOf_3 : decode cX12_onesOf 3 = .ok (.istore_n 2, 1) := by decide +kernel
theorem dX12_onesOf_4 : decode cX12_onesOf 4 = .ok (.iload_n 2, 1) := by decide +kernel
theorem dX12_onesOf_5 : decode cX12_onesOf 5 = .ok (.ifCond .eq 15, 3) := by decide +kernel
theorem dX12_onesOf_8 : decode cX12_onesOf 8 = .ok (.iinc 1 1, 3) := by decide +kernel
theorem dX12_onesOf_11 : decode cX12_onesOf 11 = .ok (.iload_n 2, 1) := by decide +kernel
theorem dX12_onesOf_12 : decode cX12_onesOf 12 = .ok (.iload_n 2, 1) := by decide +kernel
theorem dX12_onesOf_13 : decode cX12_onesOf 13 = .ok (.iconst 1, 1) := by decide +kernel
theorem dX12_onesOf_14 : decode cX12_onesOf 14 = .ok (.isub, 1) := by decide +kernel
theorem dX12_onesOf_15 : decode cX12_onesOf 15 = .ok (.iand, 1) := by decide +kernel
theorem dX12_onesOf_16 : decode cX12_onesOf 16 = .ok (.istore_n 2, 1) := by decide +kernel
theorem dX12_onesOf_17 : decode cX12_onesOf 17 = .ok (.goto (-13), 3) := by decide +kernel
theorem dX12_onesOf_20 : decode cX12_onesOf 20 = .ok (.iload_n 1, 1) := by decide +kernel
theorem dX12_onesOf_21 : decode cX12_onesOf 21 = .ok (.ireturn, 1) := by decide +kernel
theorem dX12_held_0 : decode cX12_held 0 = .ok (.iload_n 0, 1) := by decide +kernel
theorem dX12_held_1 : decode cX12_held 1 = .ok (.ifCond .ge 7, 3) := by decide +kernel
theorem dX12_held_4 : decode cX12_held 4 = .ok (.iconst 0, 1) := by decide +kernel
theorem dX12_held_5 : decode cX12_held 5 = .ok (.goto 13, 3) := by decide +kernel
theorem dX12_held_8 : decode cX12_held 8 = .ok (.iload_n 0, 1) := by decide +kernel
theorem dX12_held_9 : decode cX12_held 9 = .ok (.iload_n 1, 1) := by decide +kernel
theorem dX12_held_10 : decode cX12_held 10 = .ok (.if_icmp .le 7, 3) := by decide +kernel
theorem dX12_held_13 : decode cX12_held 13 = .ok (.iload_n 1, 1) := by decide +kernel
theorem dX12_held_14 : decode cX12_held 14 = .ok (.goto 4, 3) := by decide +kernel
theorem dX12_held_17 : decode cX12_held 17 = .ok (.iload_n 0, 1) := by decide +kernel
theorem dX12_held_18 : decode cX12_held 18 = .ok (.ireturn, 1) := by decide +kernel
theorem dX12_isChild_0 : decode cX12_isChild 0 = .ok (.iload_n 1, 1) := by decide +kernel
theorem dX12_isChild_1 : decode cX12_isChild 1 = .ok (.i2l, 1) := by decide +kernel
theorem dX12_isChild_2 : decode cX12_isChild 2 = .ok (.lconst 0, 1) := by decide +kernel
theorem dX12_isChild_3 : decode cX12_isChild 3 = .ok (.aload_n 0, 1) := by decide +kernel
theorem dX12_isChild_4 : decode cX12_isChild 4 = .ok (.getfield 81, 3) := by decide +kernel
theorem dX12_isChild_7 : decode cX12_isChild 7 = .ok (.iconst 1, 1) := by decide +kernel
theorem dX12_isChild_8 : decode cX12_isChild 8 = .ok (.isub, 1) := by decide +kernel
theorem dX12_isChild_9 : decode cX12_isChild 9 = .ok (.i2l, 1) := by decide +kernel
theorem dX12_isChild_10 : decode cX12_isChild 10 = .ok (.invokestatic 84, 3) := by decide +kernel
theorem dX12_isChild_13 : decode cX12_isChild 13 = .ok (.ireturn, 1) := by decide +kernel
theorem dX12_holdsBy_0 : decode cX12_holdsBy 0 = .ok (.iload_n 0, 1) := by decide +kernel
theorem dX12_holdsBy_1 : decode cX12_holdsBy 1 = .ok (.tableswitch 53 0 6 #[43, 53, 45, 45, 53, 53, 47], 43) := by decide +kernel
theorem dX12_holdsBy_44 : decode cX12_holdsBy 44 = .ok (.iconst 2, 1) := by decide +kernel
theorem dX12_holdsBy_45 : decode cX12_holdsBy 45 = .ok (.ireturn, 1) := by decide +kernel
theorem dX12_holdsBy_46 : decode cX12_holdsBy 46 = .ok (.iconst 3, 1) := by decide +kernel
theorem dX12_holdsBy_47 : decode cX12_holdsBy 47 = .ok (.ireturn, 1) := by decide +kernel
theorem dX12_holdsBy_48 : decode cX12_holdsBy 48 = .ok (.iconst 3, 1) := by decide +kernel
theorem dX12_holdsBy_49 : decode cX12_holdsBy 49 = .ok (.iload_n 1, 1) := by decide +kernel
theorem dX12_holdsBy_50 : decode cX12_holdsBy 50 = .ok (.iconst 3, 1) := by decide +kernel
theorem dX12_holdsBy_51 : decode cX12_holdsBy 51 = .ok (.idiv, 1) := by decide +kernel
theorem dX12_holdsBy_52 : decode cX12_holdsBy 52 = .ok (.iadd, 1) := by decide +kernel
theorem dX12_holdsBy_53 : decode cX12_holdsBy 53 = .ok (.ireturn, 1) := by decide +kernel
theorem dX12_holdsBy_54 : decode cX12_holdsBy 54 = .ok (.iconst 1, 1) := by decide +kernel
theorem dX12_holdsBy_55 : decode cX12_holdsBy 55 = .ok (.ireturn, 1) := by decide +kernel
theorem dX12_holdsOf_0 : decode cX12_holdsOf 0 = .ok (.aload_n 0, 1) := by decide +kernel
theorem dX12_holdsOf_1 : decode cX12_holdsOf 1 = .ok (.getfield 7, 3) := by decide +kernel
theorem dX12_holdsOf_4 : decode cX12_holdsOf 4 = .ok (.iload_n 1, 1) := by decide +kernel
theorem dX12_holdsOf_5 : decode cX12_holdsOf 5 = .ok (.iaload, 1) := by decide +kernel
theorem dX12_holdsOf_6 : decode cX12_holdsOf 6 = .ok (.aload_n 0, 1) := by decide +kernel
theorem dX12_holdsOf_7 : decode cX12_holdsOf 7 = .ok (.getfield 13, 3) := by decide +kernel
theorem dX12_holdsOf_10 : decode cX12_holdsOf 10 = .ok (.iload_n 1, 1) := by decide +kernel
theorem dX12_holdsOf_11 : decode cX12_holdsOf 11 = .ok (.iaload, 1) := by decide +kernel
theorem dX12_holdsOf_12 : decode cX12_holdsOf 12 = .ok (.invokestatic 88, 3) := by decide +kernel
theorem dX12_holdsOf_15 : decode cX12_holdsOf 15 = .ok (.ireturn, 1) := by decide +kernel
theorem dX12_needsAt_0 : decode cX12_needsAt 0 = .ok (.aload_n 0, 1) := by decide +kernel
theorem dX12_needsAt_1 : decode cX12_needsAt 1 = .ok (.getfield 7, 3) := by decide +kernel
theorem dX12_needsAt_4 : decode cX12_needsAt 4 = .ok (.iload_n 1, 1) := by decide +kernel
theorem dX12_needsAt_5 : decode cX12_needsAt 5 = .ok (.iaload, 1) := by decide +kernel
theorem dX12_needsAt_6 : decode cX12_needsAt 6 = .ok (.tableswitch 83 0 7 #[46, 83, 50, 56, 83, 83, 69, 77], 46) := by decide +kernel
theorem dX12_needsAt_52 : decode cX12_needsAt 52 = .ok (.iload_n 2, 1) := by decide +kernel
theorem dX12_needsAt_53 : decode cX12_needsAt 53 = .ok (.iconst 4, 1) := by decide +kernel
theorem dX12_needsAt_54 : decode cX12_needsAt 54 = .ok (.iadd, 1) := by decide +kernel
theorem dX12_needsAt_55 : decode cX12_needsAt 55 = .ok (.ireturn, 1) := by decide +kernel
theorem dX12_needsAt_56 : decode cX12_needsAt 56 = .ok (.iconst 2, 1) := by decide +kernel
theorem dX12_needsAt_57 : decode cX12_needsAt 57 = .ok (.iload_n 2, 1) := by decide +kernel
theorem dX12_needsAt_58 : decode cX12_needsAt 58 = .ok (.iconst 4, 1) := by decide +kernel
theorem dX12_needsAt_59 : decode cX12_needsAt 59 = .ok (.iadd, 1) := by decide +kernel
theorem dX12_needsAt_60 : decode cX12_needsAt 60 = .ok (.imul, 1) := by decide +kernel
theorem dX12_needsAt_61 : decode cX12_needsAt 61 = .ok (.ireturn, 1) := by decide +kernel
theorem dX12_needsAt_62 : decode cX12_needsAt 62 = .ok (.iload_n 2, 1) := by decide +kernel
theorem dX12_needsAt_63 : decode cX12_needsAt 63 = .ok (.iconst 4, 1) := by decide +kernel
theorem dX12_needsAt_64 : decode cX12_needsAt 64 = .ok (.iadd, 1) := by decide +kernel
theorem dX12_needsAt_65 : decode cX12_needsAt 65 = .ok (.aload_n 0, 1) := by decide +kernel
theorem dX12_needsAt_66 : decode cX12_needsAt 66 = .ok (.getfield 13, 3) := by decide +kernel
theorem dX12_needsAt_69 : decode cX12_needsAt 69 = .ok (.iload_n 1, 1) := by decide +kernel
theorem dX12_needsAt_70 : decode cX12_needsAt 70 = .ok (.iaload, 1) := by decide +kernel
theorem dX12_needsAt_71 : decode cX12_needsAt 71 = .ok (.iconst 4, 1) := by decide +kernel
theorem dX12_needsAt_72 : decode cX12_needsAt 72 = .ok (.idiv, 1) := by decide +kernel
theorem dX12_needsAt_73 : decode cX12_needsAt 73 = .ok (.iadd, 1) := by decide +kernel
theorem dX12_needsAt_74 : decode cX12_needsAt 74 = .ok (.ireturn, 1) := by decide +kernel
theorem dX12_needsAt_75 : decode cX12_needsAt 75 = .ok (.iconst 2, 1) := by decide +kernel
theorem dX12_needsAt_76 : decode cX12_needsAt 76 = .ok (.iload_n 2, 1) := by decide +kernel
theorem dX12_needsAt_77 : decode cX12_needsAt 77 = .ok (.iconst 4, 1) := by decide +kernel
theorem dX12_needsAt_78 : decode cX12_needsAt 78 = .ok (.iadd, 1) := by decide +kernel
theorem dX12_needsAt_79 : decode cX12_needsAt 79 = .ok (.imul, 1) := by decide +kernel
theorem dX12_needsAt_80 : decode cX12_needsAt 80 = .ok (.iconst 1, 1) := by decide +kernel
theorem dX12_needsAt_81 : decode cX12_needsAt 81 = .ok (.isub, 1) := by decide +kernel
theorem dX12_needsAt_82 : decode cX12_needsAt 82 = .ok (.ireturn, 1) := by decide +kernel
theorem dX12_needsAt_83 : decode cX12_needsAt 83 = .ok (.iload_n 2, 1) := by decide +kernel
theorem dX12_needsAt_84 : decode cX12_needsAt 84 = .ok (.iconst 2, 1) := by decide +kernel
theorem dX12_needsAt_85 : decode cX12_needsAt 85 = .ok (.iadd, 1) := by decide +kernel
theorem dX12_needsAt_86 : decode cX12_needsAt 86 = .ok (.iconst 2, 1) := by decide +kernel
theorem dX12_needsAt_87 : decode cX12_needsAt 87 = .ok (.idiv, 1) := by decide +kernel
theorem dX12_needsAt_88 : decode cX12_needsAt 88 = .ok (.ireturn, 1) := by decide +kernel
theorem dX12_needsAt_89 : decode cX12_needsAt 89 = .ok (.iload_n 2, 1) := by decide +kernel
theorem dX12_needsAt_90 : decode cX12_needsAt 90 = .ok (.iconst 2, 1) := by decide +kernel
theorem dX12_needsAt_91 : decode cX12_needsAt 91 = .ok (.iadd, 1) := by decide +kernel
theorem dX12_needsAt_92 : decode cX12_needsAt 92 = .ok (.ireturn, 1) := by decide +kernel
theorem dX12_needsOf_0 : decode cX12_needsOf 0 = .ok (.aload_n 0, 1) := by decide +kernel
theorem dX12_needsOf_1 : decode cX12_needsOf 1 = .ok (.iload_n 1, 1) := by decide +kernel
theorem dX12_needsOf_2 : decode cX12_needsOf 2 = .ok (.aload_n 0, 1) := by decide +kernel
theorem dX12_needsOf_3 : decode cX12_needsOf 3 = .ok (.getfield 19, 3) := by decide +kernel
theorem dX12_needsOf_6 : decode cX12_needsOf 6 = .ok (.iload_n 1, 1) := by decide +kernel
theorem dX12_needsOf_7 : decode cX12_needsOf 7 = .ok (.iaload, 1) := by decide +kernel
theorem dX12_needsOf_8 : decode cX12_needsOf 8 = .ok (.invokevirtual 92, 3) := by decide +kernel
theorem dX12_needsOf_11 : decode cX12_needsOf 11 = .ok (.ireturn, 1) := by decide +kernel
theorem dX12_frightOf_0 : decode cX12_frightOf 0 = .ok (.aload_n 0, 1) := by decide +kernel
theorem dX12_frightOf_1 : decode cX12_frightOf 1 = .ok (.getfield 7, 3) := by decide +kernel
theorem dX12_frightOf_4 : decode cX12_frightOf 4 = .ok (.iload_n 1, 1) := by decide +kernel
theorem dX12_frightOf_5 : decode cX12_frightOf 5 = .ok (.iaload, 1) := by decide +kernel
theorem dX12_frightOf_6 : decode cX12_frightOf 6 = .ok (.tableswitch 70 0 6 #[42, 70, 44, 42, 55, 70, 57], 42) := by decide +kernel
theorem dX12_frightOf_48 : decode cX12_frightOf 48 = .ok (.iconst 3, 1) := by decide +kernel
theorem dX12_frightOf_49 : decode cX12_frightOf 49 = .ok (.ireturn, 1) := by decide +kernel
theorem dX12_frightOf_50 : decode cX12_frightOf 50 = .ok (.iconst 3, 1) := by decide +kernel
theorem dX12_frightOf_51 : decode cX12_frightOf 51 = .ok (.aload_n 0, 1) := by decide +kernel
theorem dX12_frightOf_52 : decode cX12_frightOf 52 = .ok (.getfield 13, 3) := by decide +kernel
theorem dX12_frightOf_55 : decode cX12_frightOf 55 = .ok (.iload_n 1, 1) := by decide +kernel
theorem dX12_frightOf_56 : decode cX12_frightOf 56 = .ok (.iaload, 1) := by decide +kernel
theorem dX12_frightOf_57 : decode cX12_frightOf 57 = .ok (.iconst 2, 1) := by decide +kernel
theorem dX12_frightOf_58 : decode cX12_frightOf 58 = .ok (.idiv, 1) := by decide +kernel
theorem dX12_frightOf_59 : decode cX12_frightOf 59 = .ok (.iadd, 1) := by decide +kernel
theorem dX12_frightOf_60 : decode cX12_frightOf 60 = .ok (.ireturn, 1) := by decide +kernel
theorem dX12_frightOf_61 : decode cX12_frightOf 61 = .ok (.iconst 0, 1) := by decide +kernel
theorem dX12_frightOf_62 : decode cX12_frightOf 62 = .ok (.ireturn, 1) := by decide +kernel
theorem dX12_frightOf_63 : decode cX12_frightOf 63 = .ok (.iconst 2, 1) := by decide +kernel
theorem dX12_frightOf_64 : decode cX12_frightOf 64 = .ok (.iconst 3, 1) := by decide +kernel
theorem dX12_frightOf_65 : decode cX12_frightOf 65 = .ok (.aload_n 0, 1) := by decide +kernel
theorem dX12_frightOf_66 : decode cX12_frightOf 66 = .ok (.getfield 13, 3) := by decide +kernel
theorem dX12_frightOf_69 : decode cX12_frightOf 69 = .ok (.iload_n 1, 1) := by decide +kernel
theorem dX12_frightOf_70 : decode cX12_frightOf 70 = .ok (.iaload, 1) := by decide +kernel
theorem dX12_frightOf_71 : decode cX12_frightOf 71 = .ok (.iconst 2, 1) := by decide +kernel
theorem dX12_frightOf_72 : decode cX12_frightOf 72 = .ok (.idiv, 1) := by decide +kernel
theorem dX12_frightOf_73 : decode cX12_frightOf 73 = .ok (.iadd, 1) := by decide +kernel
theorem dX12_frightOf_74 : decode cX12_frightOf 74 = .ok (.imul, 1) := by decide +kernel
theorem dX12_frightOf_75 : decode cX12_frightOf 75 = .ok (.ireturn, 1) := by decide +kernel
theorem dX12_frightOf_76 : decode cX12_frightOf 76 = .ok (.iconst 2, 1) := by decide +kernel
theorem dX12_frightOf_77 : decode cX12_frightOf 77 = .ok (.ireturn, 1) := by decide +kernel
theorem dX12_bearsOf_0 : decode cX12_bearsOf 0 = .ok (.aload_n 0, 1) := by decide +kernel
theorem dX12_bearsOf_1 : decode cX12_bearsOf 1 = .ok (.getfield 7, 3) := by decide +kernel
theorem dX12_bearsOf_4 : decode cX12_bearsOf 4 = .ok (.iload_n 1, 1) := by decide +kernel
theorem dX12_bearsOf_5 : decode cX12_bearsOf 5 = .ok (.iaload, 1) := by decide +kernel
theorem dX12_bearsOf_6 : decode cX12_bearsOf 6 = .ok (.tableswitch 53 0 7 #[46, 53, 48, 46, 53, 53, 48, 50], 46) := by decide +kernel
theorem dX12_bearsOf_52 : decode cX12_bearsOf 52 = .ok (.iconst 5, 1) := by decide +kernel
theorem dX12_bearsOf_53 : decode cX12_bearsOf 53 = .ok (.ireturn, 1) := by decide +kernel
theorem dX12_bearsOf_54 : decode cX12_bearsOf 54 = .ok (.iconst 4, 1) := by decide +kernel
theorem dX12_bearsOf_55 : decode cX12_bearsOf 55 = .ok (.ireturn, 1) := by decide +kernel
theorem dX12_bearsOf_56 : decode cX12_bearsOf 56 = .ok (.bipush 20, 2) := by decide +kernel
theorem dX12_bearsOf_58 : decode cX12_bearsOf 58 = .ok (.ireturn, 1) := by decide +kernel
theorem dX12_bearsOf_59 : decode cX12_bearsOf 59 = .ok (.iconst 5, 1) := by decide +kernel
theorem dX12_bearsOf_60 : decode cX12_bearsOf 60 = .ok (.aload_n 0, 1) := by decide +kernel
theorem dX12_bearsOf_61 : decode cX12_bearsOf 61 = .ok (.getfield 13, 3) := by decide +kernel
theorem dX12_bearsOf_64 : decode cX12_bearsOf 64 = .ok (.iload_n 1, 1) := by decide +kernel
theorem dX12_bearsOf_65 : decode cX12_bearsOf 65 = .ok (.iaload, 1) := by decide +kernel
theorem dX12_bearsOf_66 : decode cX12_bearsOf 66 = .ok (.iadd, 1) := by decide +kernel
theorem dX12_bearsOf_67 : decode cX12_bearsOf 67 = .ok (.ireturn, 1) := by decide +kernel
theorem dX12_passesOf_0 : decode cX12_passesOf 0 = .ok (.aload_n 0, 1) := by decide +kernel
theorem dX12_passesOf_1 : decode cX12_passesOf 1 = .ok (.getfield 7, 3) := by decide +kernel
theorem dX12_passesOf_4 : decode cX12_passesOf 4 = .ok (.iload_n 1, 1) := by decide +kernel
theorem dX12_passesOf_5 : decode cX12_passesOf 5 = .ok (.iaload, 1) := by decide +kernel
theorem dX12_passesOf_6 : decode cX12_passesOf 6 = .ok (.tableswitch 40 2 6 #[34, 40, 36, 38, 34], 34) := by decide +kernel
theorem dX12_passesOf_40 : decode cX12_passesOf 40 = .ok (.iconst 0, 1) := by decide +kernel
theorem dX12_passesOf_41 : decode cX12_passesOf 41 = .ok (.ireturn, 1) := by decide +kernel
theorem dX12_passesOf_42 : decode cX12_passesOf 42 = .ok (.iconst 2, 1) := by decide +kernel
theorem dX12_passesOf_43 : decode cX12_passesOf 43 = .ok (.ireturn, 1) := by decide +kernel
theorem dX12_passesOf_44 : decode cX12_passesOf 44 = .ok (.iconst 3, 1) := by decide +kernel
theorem dX12_passesOf_45 : decode cX12_passesOf 45 = .ok (.ireturn, 1) := by decide +kernel
theorem dX12_passesOf_46 : decode cX12_passesOf 46 = .ok (.iconst 1, 1) := by decide +kernel
theorem dX12_passesOf_47 : decode cX12_passesOf 47 = .ok (.ireturn, 1) := by decide +kernel
theorem dX12_isReady_0 : decode cX12_isReady 0 = .ok (.aload_n 0, 1) := by decide +kernel
theorem dX12_isReady_1 : decode cX12_isReady 1 = .ok (.getfield 19, 3) := by decide +kernel
theorem dX12_isReady_4 : decode cX12_isReady 4 = .ok (.iload_n 1, 1) := by decide +kernel
theorem dX12_isReady_5 : decode cX12_isReady 5 = .ok (.iaload, 1) := by decide +kernel
theorem dX12_isReady_6 : decode cX12_isReady 6 = .ok (.bipush 7, 2) := by decide +kernel
theorem dX12_isReady_8 : decode cX12_isReady 8 = .ok (.if_icmp .ge 21, 3) := by decide +kernel
theorem dX12_isReady_11 : decode cX12_isReady 11 = .ok (.aload_n 0, 1) := by decide +kernel
theorem dX12_isReady_12 : decode cX12_isReady 12 = .ok (.getfield 16, 3) := by decide +kernel
theorem dX12_isReady_15 : decode cX12_isReady 15 = .ok (.iload_n 1, 1) := by decide +kernel
theorem dX12_isReady_16 : decode cX12_isReady 16 = .ok (.iaload, 1) := by decide +kernel
theorem dX12_isReady_17 : decode cX12_isReady 17 = .ok (.aload_n 0, 1) := by decide +kernel
theorem dX12_isReady_18 : decode cX12_isReady 18 = .ok (.iload_n 1, 1) := by decide +kernel
theorem dX12_isReady_19 : decode cX12_isReady 19 = .ok (.invokevirtual 95, 3) := by decide +kernel
theorem dX12_isReady_22 : decode cX12_isReady 22 = .ok (.if_icmp .lt 7, 3) := by decide +kernel
theorem dX12_isReady_25 : decode cX12_isReady 25 = .ok (.iconst 1, 1) := by decide +kernel
theorem dX12_isReady_26 : decode cX12_isReady 26 = .ok (.goto 4, 3) := by decide +kernel
theorem dX12_isReady_29 : decode cX12_isReady 29 = .ok (.iconst 0, 1) := by decide +kernel
theorem dX12_isReady_30 : decode cX12_isReady 30 = .ok (.ireturn, 1) := by decide +kernel
theorem dX12_gains_0 : decode cX12_gains 0 = .ok (.aload_n 0, 1) := by decide +kernel
theorem dX12_gains_1 : decode cX12_gains 1 = .ok (.iload_n 1, 1) := by decide +kernel
theorem dX12_gains_2 : decode cX12_gains 2 = .ok (.invokevirtual 99, 3) := by decide +kernel
theorem dX12_gains_5 : decode cX12_gains 5 = .ok (.ifCond .eq 22, 3) := by decide +kernel
theorem dX12_gains_8 : decode cX12_gains 8 = .ok (.aload_n 0, 1) := by decide +kernel
theorem dX12_gains_9 : decode cX12_gains 9 = .ok (.getfield 16, 3) := by decide +kernel
theorem dX12_gains_12 : decode cX12_gains 12 = .ok (.iload_n 1, 1) := by decide +kernel
theorem dX12_gains_13 : decode cX12_gains 13 = .ok (.aload_n 0, 1) := by decide +kernel
theorem dX12_gains_14 : decode cX12_gains 14 = .ok (.getfield 16, 3) := by decide +kernel
theorem dX12_gains_17 : decode cX12_gains 17 = .ok (.iload_n 1, 1) := by decide +kernel
theorem dX12_gains_18 : decode cX12_gains 18 = .ok (.iaload, 1) := by decide +kernel
theorem dX12_gains_19 : decode cX12_gains 19 = .ok (.iload_n 2, 1) := by decide +kernel
theorem dX12_gains_20 : decode cX12_gains 20 = .ok (.iadd, 1) := by decide +kernel
theorem dX12_gains_21 : decode cX12_gains 21 = .ok (.bipush 20, 2) := by decide +kernel
theorem dX12_gains_23 : decode cX12_gains 23 = .ok (.invokestatic 103, 3) := by decide +kernel
theorem dX12_gains_26 : decode cX12_gains 26 = .ok (.iastore, 1) := by decide +kernel
theorem dX12_gains_27 : decode cX12_gains 27 = .ok (.return_, 1) := by decide +kernel
theorem dX12_letGo_0 : decode cX12_letGo 0 = .ok (.aload_n 0, 1) := by decide +kernel
theorem dX12_letGo_1 : decode cX12_letGo 1 = .ok (.iload_n 1, 1) := by decide +kernel
theorem dX12_letGo_2 : decode cX12_letGo 2 = .ok (.invokevirtual 106, 3) := by decide +kernel
theorem dX12_letGo_5 : decode cX12_letGo 5 = .ok (.istore_n 2, 1) := by decide +kernel
theorem dX12_letGo_6 : decode cX12_letGo 6 = .ok (.aload_n 0, 1) := by decide +kernel
theorem dX12_letGo_7 : decode cX12_letGo 7 = .ok (.iload_n 1, 1) := by decide +kernel
theorem dX12_letGo_8 : decode cX12_letGo 8 = .ok (.invokevirtual 109, 3) := by decide +kernel
theorem dX12_letGo_11 : decode cX12_letGo 11 = .ok (.ifCond .eq 32, 3) := by decide +kernel
theorem dX12_letGo_14 : decode cX12_letGo 14 = .ok (.aload_n 0, 1) := by decide +kernel
theorem dX12_letGo_15 : decode cX12_letGo 15 = .ok (.getfield 19, 3) := by decide +kernel
theorem dX12_letGo_18 : decode cX12_letGo 18 = .ok (.iload_n 1, 1) := by decide +kernel
theorem dX12_letGo_19 : decode cX12_letGo 19 = .ok (.dup2, 1) := by decide +kernel
theorem dX12_letGo_20 : decode cX12_letGo 20 = .ok (.iaload, 1) := by decide +kernel
theorem dX12_letGo_21 : decode cX12_letGo 21 = .ok (.iconst 1, 1) := by decide +kernel
theorem dX12_letGo_22 : decode cX12_letGo 22 = .ok (.iadd, 1) := by decide +kernel
theorem dX12_letGo_23 : decode cX12_letGo 23 = .ok (.iastore, 1) := by decide +kernel
theorem dX12_letGo_24 : decode cX12_letGo 24 = .ok (.aload_n 0, 1) := by decide +kernel
theorem dX12_letGo_25 : decode cX12_letGo 25 = .ok (.iload_n 1, 1) := by decide +kernel
theorem dX12_letGo_26 : decode cX12_letGo 26 = .ok (.iconst 1, 1) := by decide +kernel
theorem dX12_letGo_27 : decode cX12_letGo 27 = .ok (.isub, 1) := by decide +kernel
theorem dX12_letGo_28 : decode cX12_letGo 28 = .ok (.iload_n 2, 1) := by decide +kernel
theorem dX12_letGo_29 : decode cX12_letGo 29 = .ok (.invokevirtual 112, 3) := by decide +kernel
theorem dX12_letGo_32 : decode cX12_letGo 32 = .ok (.aload_n 0, 1) := by decide +kernel
theorem dX12_letGo_33 : decode cX12_letGo 33 = .ok (.iload_n 1, 1) := by decide +kernel
theorem dX12_letGo_34 : decode cX12_letGo 34 = .ok (.iconst 1, 1) := by decide +kernel
theorem dX12_letGo_35 : decode cX12_letGo 35 = .ok (.iadd, 1) := by decide +kernel
theorem dX12_letGo_36 : decode cX12_letGo 36 = .ok (.iload_n 2, 1) := by decide +kernel
theorem dX12_letGo_37 : decode cX12_letGo 37 = .ok (.invokevirtual 112, 3) := by decide +kernel
theorem dX12_letGo_40 : decode cX12_letGo 40 = .ok (.goto 32, 3) := by decide +kernel
theorem dX12_letGo_43 : decode cX12_letGo 43 = .ok (.aload_n 0, 1) := by decide +kernel
theorem dX12_letGo_44 : decode cX12_letGo 44 = .ok (.iload_n 1, 1) := by decide +kernel
theorem dX12_letGo_45 : decode cX12_letGo 45 = .ok (.aload_n 0, 1) := by decide +kernel
theorem dX12_letGo_46 : decode cX12_letGo 46 = .ok (.iload_n 1, 1) := by decide +kernel
theorem dX12_letGo_47 : decode cX12_letGo 47 = .ok (.invokevirtual 116, 3) := by decide +kernel
theorem dX12_letGo_50 : decode cX12_letGo 50 = .ok (.ineg, 1) := by decide +kernel
theorem dX12_letGo_51 : decode cX12_letGo 51 = .ok (.invokevirtual 112, 3) := by decide +kernel
theorem dX12_letGo_54 : decode cX12_letGo 54 = .ok (.aload_n 0, 1) := by decide +kernel
theorem dX12_letGo_55 : decode cX12_letGo 55 = .ok (.iload_n 1, 1) := by decide +kernel
theorem dX12_letGo_56 : decode cX12_letGo 56 = .ok (.iconst 1, 1) := by decide +kernel
theorem dX12_letGo_57 : decode cX12_letGo 57 = .ok (.isub, 1) := by decide +kernel
theorem dX12_letGo_58 : decode cX12_letGo 58 = .ok (.iload_n 2, 1) := by decide +kernel
theorem dX12_letGo_59 : decode cX12_letGo 59 = .ok (.ineg, 1) := by decide +kernel
theorem dX12_letGo_60 : decode cX12_letGo 60 = .ok (.invokevirtual 112, 3) := by decide +kernel
theorem dX12_letGo_63 : decode cX12_letGo 63 = .ok (.aload_n 0, 1) := by decide +kernel
theorem dX12_letGo_64 : decode cX12_letGo 64 = .ok (.iload_n 1, 1) := by decide +kernel
theorem dX12_letGo_65 : decode cX12_letGo 65 = .ok (.iconst 1, 1) := by decide +kernel
theorem dX12_letGo_66 : decode cX12_letGo 66 = .ok (.iadd, 1) := by decide +kernel
theorem dX12_letGo_67 : decode cX12_letGo 67 = .ok (.iload_n 2, 1) := by decide +kernel
theorem dX12_letGo_68 : decode cX12_letGo 68 = .ok (.ineg, 1) := by decide +kernel
theorem dX12_letGo_69 : decode cX12_letGo 69 = .ok (.invokevirtual 112, 3) := by decide +kernel
theorem dX12_letGo_72 : decode cX12_letGo 72 = .ok (.return_, 1) := by decide +kernel
theorem dX12_show_0 : decode cX12_show 0 = .ok (.iconst 0, 1) := by decide +kernel
theorem dX12_show_1 : decode cX12_show 1 = .ok (.istore_n 2, 1) := by decide +kernel
theorem dX12_show_2 : decode cX12_show 2 = .ok (.iconst 0, 1) := by decide +kernel
theorem dX12_show_3 : decode cX12_show 3 = .ok (.istore_n 3, 1) := by decide +kernel
theorem dX12_show_4 : decode cX12_show 4 = .ok (.iconst 0, 1) := by decide +kernel
theorem dX12_show_5 : decode cX12_show 5 = .ok (.istore 4, 2) := by decide +kernel
theorem dX12_show_7 : decode cX12_show 7 = .ok (.iload 4, 2) := by decide +kernel
theorem dX12_show_9 : decode cX12_show 9 = .ok (.aload_n 0, 1) := by decide +kernel
theorem dX12_show_10 : decode cX12_show 10 = .ok (.getfield 81, 3) := by decide +kernel
theorem dX12_show_13 : decode cX12_show 13 = .ok (.if_icmp .ge 78, 3) := by decide +kernel
theorem dX12_show_16 : decode cX12_show 16 = .ok (.aload_n 0, 1) := by decide +kernel
theorem dX12_show_17 : decode cX12_show 17 = .ok (.getfield 19, 3) := by decide +kernel
theorem dX12_show_20 : decode cX12_show 20 = .ok (.iload 4, 2) := by decide +kernel
theorem dX12_show_22 : decode cX12_show 22 = .ok (.iaload, 1) := by decide +kernel
theorem dX12_show_23 : decode cX12_show 23 = .ok (.aload_n 0, 1) := by decide +kernel
theorem dX12_show_24 : decode cX12_show 24 = .ok (.getfield 19, 3) := by decide +kernel
theorem dX12_show_27 : decode cX12_show 27 = .ok (.iload_n 1, 1) := by decide +kernel
theorem dX12_show_28 : decode cX12_show 28 = .ok (.iaload, 1) := by decide +kernel
theorem dX12_show_29 : decode cX12_show 29 = .ok (.if_icmp .le 7, 3) := by decide +kernel
theorem dX12_show_32 : decode cX12_show 32 = .ok (.iconst 1, 1) := by decide +kernel
theorem dX12_show_33 : decode cX12_show 33 = .ok (.goto 4, 3) := by decide +kernel
theorem dX12_show_36 : decode cX12_show 36 = .ok (.iconst 0, 1) := by decide +kernel
theorem dX12_show_37 : decode cX12_show 37 = .ok (.istore 5, 2) := by decide +kernel
theorem dX12_show_39 : decode cX12_show 39 = .ok (.iload_n 2, 1) := by decide +kernel
theorem dX12_show_40 : decode cX12_show 40 = .ok (.ifCond .ne 8, 3) := by decide +kernel
theorem dX12_show_43 : decode cX12_show 43 = .ok (.iload 5, 2) := by decide +kernel
theorem dX12_show_45 : decode cX12_show 45 = .ok (.ifCond .eq 7, 3) := by decide +kernel
theorem dX12_show_48 : decode cX12_show 48 = .ok (.iconst 1, 1) := by decide +kernel
theorem dX12_show_49 : decode cX12_show 49 = .ok (.goto 4, 3) := by decide +kernel
theorem dX12_show_52 : decode cX12_show 52 = .ok (.iconst 0, 1) := by decide +kernel
theorem dX12_show_53 : decode cX12_show 53 = .ok (.istore_n 2, 1) := by decide +kernel
theorem dX12_show_54 : decode cX12_show 54 = .ok (.iload_n 3, 1) := by decide +kernel
theorem dX12_show_55 : decode cX12_show 55 = .ok (.ifCond .ne 24, 3) := by decide +kernel
theorem dX12_show_58 : decode cX12_show 58 = .ok (.iload 5, 2) := by decide +kernel
theorem dX12_show_60 : decode cX12_show 60 = .ok (.ifCond .eq 23, 3) := by decide +kernel
theorem dX12_show_63 : decode cX12_show 63 = .ok (.iload 4, 2) := by decide +kernel
theorem dX12_show_65 : decode cX12_show 65 = .ok (.iload_n 1, 1) := by decide +kernel
theorem dX12_show_66 : decode cX12_show 66 = .ok (.iconst 1, 1) := by decide +kernel
theorem dX12_show_67 : decode cX12_show 67 = .ok (.isub, 1) := by decide +kernel
theorem dX12_show_68 : decode cX12_show 68 = .ok (.if_icmp .eq 11, 3) := by decide +kernel
theorem dX12_show_71 : decode cX12_show 71 = .ok (.iload 4, 2) := by decide +kernel
theorem dX12_show_73 : decode cX12_show 73 = .ok (.iload_n 1, 1) := by decide +kernel
theorem dX12_show_74 : decode cX12_show 74 = .ok (.iconst 1, 1) := by decide +kernel
theorem dX12_show_75 : decode cX12_show 75 = .ok (.iadd, 1) := by decide +kernel
theorem dX12_show_76 : decode cX12_show 76 = .ok (.if_icmp .ne 7, 3) := by decide +kernel
theorem dX12_show_79 : decode cX12_show 79 = .ok (.iconst 1, 1) := by decide +kernel
theorem dX12_show_80 : decode cX12_show 80 = .ok (.goto 4, 3) := by decide +kernel
theorem dX12_show_83 : decode cX12_show 83 = .ok (.iconst 0, 1) := by decide +kernel
theorem dX12_show_84 : decode cX12_show 84 = .ok (.istore_n 3, 1) := by decide +kernel
theorem dX12_show_85 : decode cX12_show 85 = .ok (.iinc 4 1, 3) := by decide +kernel
theorem dX12_show_88 : decode cX12_show 88 = .ok (.goto (-81), 3) := by decide +kernel
theorem dX12_show_91 : decode cX12_show 91 = .ok (.aload_n 0, 1) := by decide +kernel
theorem dX12_show_92 : decode cX12_show 92 = .ok (.iload_n 1, 1) := by decide +kernel
theorem dX12_show_93 : decode cX12_show 93 = .ok (.iload_n 2, 1) := by decide +kernel
theorem dX12_show_94 : decode cX12_show 94 = .ok (.ifCond .eq 7, 3) := by decide +kernel
theorem dX12_show_97 : decode cX12_show 97 = .ok (.iconst 1, 1) := by decide +kernel
theorem dX12_show_98 : decode cX12_show 98 = .ok (.goto 4, 3) := by decide +kernel
theorem dX12_show_101 : decode cX12_show 101 = .ok (.iconst 0, 1) := by decide +kernel
theorem dX12_show_102 : decode cX12_show 102 = .ok (.iload_n 3, 1) := by decide +kernel
theorem dX12_show_103 : decode cX12_show 103 = .ok (.ifCond .eq 7, 3) := by decide +kernel
theorem dX12_show_106 : decode cX12_show 106 = .ok (.iconst 1, 1) := by decide +kernel
theorem dX12_show_107 : decode cX12_show 107 = .ok (.goto 4, 3) := by decide +kernel
theorem dX12_show_110 : decode cX12_show 110 = .ok (.iconst 0, 1) := by decide +kernel
theorem dX12_show_111 : decode cX12_show 111 = .ok (.iadd, 1) := by decide +kernel
theorem dX12_show_112 : decode cX12_show 112 = .ok (.invokevirtual 112, 3) := by decide +kernel
theorem dX12_show_115 : decode cX12_show 115 = .ok (.return_, 1) := by decide +kernel
theorem dX12_colder_0 : decode cX12_colder 0 = .ok (.iconst 0, 1) := by decide +kernel
theorem dX12_colder_1 : decode cX12_colder 1 = .ok (.istore_n 2, 1) := by decide +kernel
theorem dX12_colder_2 : decode cX12_colder 2 = .ok (.iload_n 2, 1) := by decide +kernel
theorem dX12_colder_3 : decode cX12_colder 3 = .ok (.aload_n 0, 1) := by decide +kernel
theorem dX12_colder_4 : decode cX12_colder 4 = .ok (.getfield 81, 3) := by decide +kernel
theorem dX12_colder_7 : decode cX12_colder 7 = .ok (.if_icmp .ge 71, 3) := by decide +kernel
theorem dX12_colder_10 : decode cX12_colder 10 = .ok (.iload_n 2, 1) := by decide +kernel
theorem dX12_colder_11 : decode cX12_colder 11 = .ok (.iload_n 1, 1) := by decide +kernel
theorem dX12_colder_12 : decode cX12_colder 12 = .ok (.if_icmp .eq 60, 3) := by decide +kernel
theorem dX12_colder_15 : decode cX12_colder 15 = .ok (.aload_n 0, 1) := by decide +kernel
theorem dX12_colder_16 : decode cX12_colder 16 = .ok (.getfield 19, 3) := by decide +kernel
theorem dX12_colder_19 : decode cX12_colder 19 = .ok (.iload_n 2, 1) := by decide +kernel
theorem dX12_colder_20 : decode cX12_colder 20 = .ok (.iaload, 1) := by decide +kernel
theorem dX12_colder_21 : decode cX12_colder 21 = .ok (.bipush 7, 2) := by decide +kernel
theorem dX12_colder_23 : decode cX12_colder 23 = .ok (.if_icmp .ge 49, 3) := by decide +kernel
theorem dX12_colder_26 : decode cX12_colder 26 = .ok (.aload_n 0, 1) := by decide +kernel
theorem dX12_colder_27 : decode cX12_colder 27 = .ok (.getfield 22, 3) := by decide +kernel
theorem dX12_colder_30 : decode cX12_colder 30 = .ok (.iload_n 2, 1) := by decide +kernel
theorem dX12_colder_31 : decode cX12_colder 31 = .ok (.aload_n 0, 1) := by decide +kernel
theorem dX12_colder_32 : decode cX12_colder 32 = .ok (.getfield 22, 3) := by decide +kernel
theorem dX12_colder_35 : decode cX12_colder 35 = .ok (.iload_n 2, 1) := by decide +kernel
theorem dX12_colder_36 : decode cX12_colder 36 = .ok (.iaload, 1) := by decide +kernel
theorem dX12_colder_37 : decode cX12_colder 37 = .ok (.iconst 1, 1) := by decide +kernel
theorem dX12_colder_38 : decode cX12_colder 38 = .ok (.iadd, 1) := by decide +kernel
theorem dX12_colder_39 : decode cX12_colder 39 = .ok (.bipush 20, 2) := by decide +kernel
theorem dX12_colder_41 : decode cX12_colder 41 = .ok (.invokestatic 103, 3) := by decide +kernel
theorem dX12_colder_44 : decode cX12_colder 44 = .ok (.iastore, 1) := by decide +kernel
theorem dX12_colder_45 : decode cX12_colder 45 = .ok (.aload_n 0, 1) := by decide +kernel
theorem dX12_colder_46 : decode cX12_colder 46 = .ok (.getfield 22, 3) := by decide +kernel
theorem dX12_colder_49 : decode cX12_colder 49 = .ok (.iload_n 2, 1) := by decide +kernel
theorem dX12_colder_50 : decode cX12_colder 50 = .ok (.iaload, 1) := by decide +kernel
theorem dX12_colder_51 : decode cX12_colder 51 = .ok (.aload_n 0, 1) := by decide +kernel
theorem dX12_colder_52 : decode cX12_colder 52 = .ok (.iload_n 2, 1) := by decide +kernel
theorem dX12_colder_53 : decode cX12_colder 53 = .ok (.invokevirtual 119, 3) := by decide +kernel
theorem dX12_colder_56 : decode cX12_colder 56 = .ok (.if_icmp .le 16, 3) := by decide +kernel
theorem dX12_colder_59 : decode cX12_colder 59 = .ok (.aload_n 0, 1) := by decide +kernel
theorem dX12_colder_60 : decode cX12_colder 60 = .ok (.getfield 22, 3) := by decide +kernel
theorem dX12_colder_63 : decode cX12_colder 63 = .ok (.iload_n 2, 1) := by decide +kernel
theorem dX12_colder_64 : decode cX12_colder 64 = .ok (.iconst 0, 1) := by decide +kernel
theorem dX12_colder_65 : decode cX12_colder 65 = .ok (.iastore, 1) := by decide +kernel
theorem dX12_colder_66 : decode cX12_colder 66 = .ok (.aload_n 0, 1) := by decide +kernel
theorem dX12_colder_67 : decode cX12_colder 67 = .ok (.iload_n 2, 1) := by decide +kernel
theorem dX12_colder_68 : decode cX12_colder 68 = .ok (.iconst (-1), 1) := by decide +kernel
theorem dX12_colder_69 : decode cX12_colder 69 = .ok (.invokevirtual 112, 3) := by decide +kernel
theorem dX12_colder_72 : decode cX12_colder 72 = .ok (.iinc 2 1, 3) := by decide +kernel
theorem dX12_colder_75 : decode cX12_colder 75 = .ok (.goto (-73), 3) := by decide +kernel
theorem dX12_colder_78 : decode cX12_colder 78 = .ok (.return_, 1) := by decide +kernel
theorem dX12_goMinute_0 : decode cX12_goMinute 0 = .ok (.iload_n 2, 1) := by decide +kernel
theorem dX12_goMinute_1 : decode cX12_goMinute 1 = .ok (.tableswitch 95 0 2 #[27, 40, 87], 27) := by decide +kernel
theorem dX12_goMinute_28 : decode cX12_goMinute 28 = .ok (.aload_n 0, 1) := by decide +kernel
theorem dX12_goMinute_29 : decode cX12_goMinute 29 = .ok (.iload_n 1, 1) := by decide +kernel
theorem dX12_goMinute_30 : decode cX12_goMinute 30 = .ok (.aload_n 0, 1) := by decide +kernel
theorem dX12_goMinute_31 : decode cX12_goMinute 31 = .ok (.iload_n 1, 1) := by decide +kernel
theorem dX12_goMinute_32 : decode cX12_goMinute 32 = .ok (.invokevirtual 122, 3) := by decide +kernel
theorem dX12_goMinute_35 : decode cX12_goMinute 35 = .ok (.invokevirtual 112, 3) := by decide +kernel
theorem dX12_goMinute_38 : decode cX12_goMinute 38 = .ok (.goto 63, 3) := by decide +kernel
theorem dX12_goMinute_41 : decode cX12_goMinute 41 = .ok (.aload_n 0, 1) := by decide +kernel
theorem dX12_goMinute_42 : decode cX12_goMinute 42 = .ok (.iload_n 1, 1) := by decide +kernel
theorem dX12_goMinute_43 : decode cX12_goMinute 43 = .ok (.aload_n 0, 1) := by decide +kernel
theorem dX12_goMinute_44 : decode cX12_goMinute 44 = .ok (.iload_n 1, 1) := by decide +kernel
theorem dX12_goMinute_45 : decode cX12_goMinute 45 = .ok (.invokevirtual 122, 3) := by decide +kernel
theorem dX12_goMinute_48 : decode cX12_goMinute 48 = .ok (.iconst 2, 1) := by decide +kernel
theorem dX12_goMinute_49 : decode cX12_goMinute 49 = .ok (.idiv, 1) := by decide +kernel
theorem dX12_goMinute_50 : decode cX12_goMinute 50 = .ok (.iconst 1, 1) := by decide +kernel
theorem dX12_goMinute_51 : decode cX12_goMinute 51 = .ok (.iadd, 1) := by decide +kernel
theorem dX12_goMinute_52 : decode cX12_goMinute 52 = .ok (.invokevirtual 112, 3) := by decide +kernel
theorem dX12_goMinute_55 : decode cX12_goMinute 55 = .ok (.aload_n 0, 1) := by decide +kernel
theorem dX12_goMinute_56 : decode cX12_goMinute 56 = .ok (.getfield 19, 3) := by decide +kernel
theorem dX12_goMinute_59 : decode cX12_goMinute 59 = .ok (.iload_n 1, 1) := by decide +kernel
theorem dX12_goMinute_60 : decode cX12_goMinute 60 = .ok (.dup2, 1) := by decide +kernel
theorem dX12_goMinute_61 : decode cX12_goMinute 61 = .ok (.iaload, 1) := by decide +kernel
theorem dX12_goMinute_62 : decode cX12_goMinute 62 = .ok (.aload_n 0, 1) := by decide +kernel
theorem dX12_goMinute_63 : decode cX12_goMinute 63 = .ok (.getfield 16, 3) := by decide +kernel
theorem dX12_goMinute_66 : decode cX12_goMinute 66 = .ok (.iload_n 1, 1) := by decide +kernel
theorem dX12_goMinute_67 : decode cX12_goMinute 67 = .ok (.iaload, 1) := by decide +kernel
theorem dX12_goMinute_68 : decode cX12_goMinute 68 = .ok (.aload_n 0, 1) := by decide +kernel
theorem dX12_goMinute_69 : decode cX12_goMinute 69 = .ok (.iload_n 1, 1) := by decide +kernel
theorem dX12_goMinute_70 : decode cX12_goMinute 70 = .ok (.invokevirtual 95, 3) := by decide +kernel
theorem dX12_goMinute_73 : decode cX12_goMinute 73 = .ok (.iconst 3, 1) := by decide +kernel
theorem dX12_goMinute_74 : decode cX12_goMinute 74 = .ok (.iadd, 1) := by decide +kernel
theorem dX12_goMinute_75 : decode cX12_goMinute 75 = .ok (.if_icmp .lt 7, 3) := by decide +kernel
theorem dX12_goMinute_78 : decode cX12_goMinute 78 = .ok (.iconst 1, 1) := by decide +kernel
theorem dX12_goMinute_79 : decode cX12_goMinute 79 = .ok (.goto 4, 3) := by decide +kernel
theorem dX12_goMinute_82 : decode cX12_goMinute 82 = .ok (.iconst 0, 1) := by decide +kernel
theorem dX12_goMinute_83 : decode cX12_goMinute 83 = .ok (.iadd, 1) := by decide +kernel
theorem dX12_goMinute_84 : decode cX12_goMinute 84 = .ok (.iastore, 1) := by decide +kernel
theorem dX12_goMinute_85 : decode cX12_goMinute 85 = .ok (.goto 16, 3) := by decide +kernel
theorem dX12_goMinute_88 : decode cX12_goMinute 88 = .ok (.aload_n 0, 1) := by decide +kernel
theorem dX12_goMinute_89 : decode cX12_goMinute 89 = .ok (.iload_n 1, 1) := by decide +kernel
theorem dX12_goMinute_90 : decode cX12_goMinute 90 = .ok (.invokevirtual 125, 3) := by decide +kernel
theorem dX12_goMinute_93 : decode cX12_goMinute 93 = .ok (.goto 8, 3) := by decide +kernel
theorem dX12_goMinute_96 : decode cX12_goMinute 96 = .ok (.aload_n 0, 1) := by decide +kernel
theorem dX12_goMinute_97 : decode cX12_goMinute 97 = .ok (.iload_n 1, 1) := by decide +kernel
theorem dX12_goMinute_98 : decode cX12_goMinute 98 = .ok (.invokevirtual 129, 3) := by decide +kernel
theorem dX12_goMinute_101 : decode cX12_goMinute 101 = .ok (.aload_n 0, 1) := by decide +kernel
theorem dX12_goMinute_102 : decode cX12_goMinute 102 = .ok (.iload_n 1, 1) := by decide +kernel
theorem dX12_goMinute_103 : decode cX12_goMinute 103 = .ok (.invokevirtual 132, 3) := by decide +kernel
theorem dX12_goMinute_106 : decode cX12_goMinute 106 = .ok (.aload_n 0, 1) := by decide +kernel
theorem dX12_goMinute_107 : decode cX12_goMinute 107 = .ok (.dup, 1) := by decide +kernel
theorem dX12_goMinute_108 : decode cX12_goMinute 108 = .ok (.getfield 135, 3) := by decide +kernel
theorem dX12_goMinute_111 : decode cX12_goMinute 111 = .ok (.iconst 1, 1) := by decide +kernel
theorem dX12_goMinute_112 : decode cX12_goMinute 112 = .ok (.iadd, 1) := by decide +kernel
theorem dX12_goMinute_113 : decode cX12_goMinute 113 = .ok (.putfield 135, 3) := by decide +kernel
theorem dX12_goMinute_116 : decode cX12_goMinute 116 = .ok (.return_, 1) := by decide +kernel
theorem dX12_goBreak_0 : decode cX12_goBreak 0 = .ok (.iconst 0, 1) := by decide +kernel
theorem dX12_goBreak_1 : decode cX12_goBreak 1 = .ok (.istore_n 2, 1) := by decide +kernel
theorem dX12_goBreak_2 : decode cX12_goBreak 2 = .ok (.iload_n 2, 1) := by decide +kernel
theorem dX12_goBreak_3 : decode cX12_goBreak 3 = .ok (.aload_n 0, 1) := by decide +kernel
theorem dX12_goBreak_4 : decode cX12_goBreak 4 = .ok (.getfield 81, 3) := by decide +kernel
theorem dX12_goBreak_7 : decode cX12_goBreak 7 = .ok (.if_icmp .ge 72, 3) := by decide +kernel
theorem dX12_goBreak_10 : decode cX12_goBreak 10 = .ok (.aload_n 0, 1) := by decide +kernel
theorem dX12_goBreak_11 : decode cX12_goBreak 11 = .ok (.getfield 19, 3) := by decide +kernel
theorem dX12_goBreak_14 : decode cX12_goBreak 14 = .ok (.iload_n 2, 1) := by decide +kernel
theorem dX12_goBreak_15 : decode cX12_goBreak 15 = .ok (.aload_n 0, 1) := by decide +kernel
theorem dX12_goBreak_16 : decode cX12_goBreak 16 = .ok (.getfield 19, 3) := by decide +kernel
theorem dX12_goBreak_19 : decode cX12_goBreak 19 = .ok (.iload_n 2, 1) := by decide +kernel
theorem dX12_goBreak_20 : decode cX12_goBreak 20 = .ok (.iaload, 1) := by decide +kernel
theorem dX12_goBreak_21 : decode cX12_goBreak 21 = .ok (.bipush 7, 2) := by decide +kernel
theorem dX12_goBreak_23 : decode cX12_goBreak 23 = .ok (.if_icmp .ne 8, 3) := by decide +kernel
theorem dX12_goBreak_26 : decode cX12_goBreak 26 = .ok (.bipush 7, 2) := by decide +kernel
theorem dX12_goBreak_28 : decode cX12_goBreak 28 = .ok (.goto 18, 3) := by decide +kernel
theorem dX12_goBreak_31 : decode cX12_goBreak 31 = .ok (.aload_n 0, 1) := by decide +kernel
theorem dX12_goBreak_32 : decode cX12_goBreak 32 = .ok (.getfield 19, 3) := by decide +kernel
theorem dX12_goBreak_35 : decode cX12_goBreak 35 = .ok (.iload_n 2, 1) := by decide +kernel
theorem dX12_goBreak_36 : decode cX12_goBreak 36 = .ok (.iaload, 1) := by decide +kernel
theorem dX12_goBreak_37 : decode cX12_goBreak 37 = .ok (.iload_n 1, 1) := by decide +kernel
theorem dX12_goBreak_38 : decode cX12_goBreak 38 = .ok (.iconst 3, 1) := by decide +kernel
theorem dX12_goBreak_39 : decode cX12_goBreak 39 = .ok (.idiv, 1) := by decide +kernel
theorem dX12_goBreak_40 : decode cX12_goBreak 40 = .ok (.isub, 1) := by decide +kernel
theorem dX12_goBreak_41 : decode cX12_goBreak 41 = .ok (.bipush 7, 2) := by decide +kernel
theorem dX12_goBreak_43 : decode cX12_goBreak 43 = .ok (.invokestatic 103, 3) := by decide +kernel
theorem dX12_goBreak_46 : decode cX12_goBreak 46 = .ok (.iastore, 1) := by decide +kernel
theorem dX12_goBreak_47 : decode cX12_goBreak 47 = .ok (.aload_n 0, 1) := by decide +kernel
theorem dX12_goBreak_48 : decode cX12_goBreak 48 = .ok (.getfield 16, 3) := by decide +kernel
theorem dX12_goBreak_51 : decode cX12_goBreak 51 = .ok (.iload_n 2, 1) := by decide +kernel
theorem dX12_goBreak_52 : decode cX12_goBreak 52 = .ok (.aload_n 0, 1) := by decide +kernel
theorem dX12_goBreak_53 : decode cX12_goBreak 53 = .ok (.getfield 16, 3) := by decide +kernel
theorem dX12_goBreak_56 : decode cX12_goBreak 56 = .ok (.iload_n 2, 1) := by decide +kernel
theorem dX12_goBreak_57 : decode cX12_goBreak 57 = .ok (.iaload, 1) := by decide +kernel
theorem dX12_goBreak_58 : decode cX12_goBreak 58 = .ok (.iload_n 1, 1) := by decide +kernel
theorem dX12_goBreak_59 : decode cX12_goBreak 59 = .ok (.isub, 1) := by decide +kernel
theorem dX12_goBreak_60 : decode cX12_goBreak 60 = .ok (.bipush 20, 2) := by decide +kernel
theorem dX12_goBreak_62 : decode cX12_goBreak 62 = .ok (.invokestatic 103, 3) := by decide +kernel
theorem dX12_goBreak_65 : decode cX12_goBreak 65 = .ok (.iastore, 1) := by decide +kernel
theorem dX12_goBreak_66 : decode cX12_goBreak 66 = .ok (.aload_n 0, 1) := by decide +kernel
theorem dX12_goBreak_67 : decode cX12_goBreak 67 = .ok (.getfield 22, 3) := by decide +kernel
theorem dX12_goBreak_70 : decode cX12_goBreak 70 = .ok (.iload_n 2, 1) := by decide +kernel
theorem dX12_goBreak_71 : decode cX12_goBreak 71 = .ok (.iconst 0, 1) := by decide +kernel
theorem dX12_goBreak_72 : decode cX12_goBreak 72 = .ok (.iastore, 1) := by decide +kernel
theorem dX12_goBreak_73 : decode cX12_goBreak 73 = .ok (.iinc 2 1, 3) := by decide +kernel
theorem dX12_goBreak_76 : decode cX12_goBreak 76 = .ok (.goto (-74), 3) := by decide +kernel
theorem dX12_goBreak_79 : decode cX12_goBreak 79 = .ok (.return_, 1) := by decide +kernel
theorem dX12_allSteps_0 : decode cX12_allSteps 0 = .ok (.iconst 0, 1) := by decide +kernel
theorem dX12_allSteps_1 : decode cX12_allSteps 1 = .ok (.istore_n 1, 1) := by decide +kernel
theorem dX12_allSteps_2 : decode cX12_allSteps 2 = .ok (.iconst 0, 1) := by decide +kernel
theorem dX12_allSteps_3 : decode cX12_allSteps 3 = .ok (.istore_n 2, 1) := by decide +kernel
theorem dX12_allSteps_4 : decode cX12_allSteps 4 = .ok (.iload_n 2, 1) := by decide +kernel
theorem dX12_allSteps_5 : decode cX12_allSteps 5 = .ok (.aload_n 0, 1) := by decide +kernel
theorem dX12_allSteps_6 : decode cX12_allSteps 6 = .ok (.getfield 81, 3) := by decide +kernel
theorem dX12_allSteps_9 : decode cX12_allSteps 9 = .ok (.if_icmp .ge 18, 3) := by decide +kernel
theorem dX12_allSteps_12 : decode cX12_allSteps 12 = .ok (.iload_n 1, 1) := by decide +kernel
theorem dX12_allSteps_13 : decode cX12_allSteps 13 = .ok (.aload_n 0, 1) := by decide +kernel
theorem dX12_allSteps_14 : decode cX12_allSteps 14 = .ok (.getfield 19, 3) := by decide +kernel
theorem dX12_allSteps_17 : decode cX12_allSteps 17 = .ok (.iload_n 2, 1) := by decide +kernel
theorem dX12_allSteps_18 : decode cX12_allSteps 18 = .ok (.iaload, 1) := by decide +kernel
theorem dX12_allSteps_19 : decode cX12_allSteps 19 = .ok (.iadd, 1) := by decide +kernel
theorem dX12_allSteps_20 : decode cX12_allSteps 20 = .ok (.istore_n 1, 1) := by decide +kernel
theorem dX12_allSteps_21 : decode cX12_allSteps 21 = .ok (.iinc 2 1, 3) := by decide +kernel
theorem dX12_allSteps_24 : decode cX12_allSteps 24 = .ok (.goto (-20), 3) := by decide +kernel
theorem dX12_allSteps_27 : decode cX12_allSteps 27 = .ok (.iload_n 1, 1) := by decide +kernel
theorem dX12_allSteps_28 : decode cX12_allSteps 28 = .ok (.ireturn, 1) := by decide +kernel
theorem dX12_swimBits_0 : decode cX12_swimBits 0 = .ok (.iconst 0, 1) := by decide +kernel
theorem dX12_swimBits_1 : decode cX12_swimBits 1 = .ok (.istore_n 1, 1) := by decide +kernel
theorem dX12_swimBits_2 : decode cX12_swimBits 2 = .ok (.iconst 0, 1) := by decide +kernel
theorem dX12_swimBits_3 : decode cX12_swimBits 3 = .ok (.istore_n 2, 1) := by decide +kernel
theorem dX12_swimBits_4 : decode cX12_swimBits 4 = .ok (.iload_n 2, 1) := by decide +kernel
theorem dX12_swimBits_5 : decode cX12_swimBits 5 = .ok (.aload_n 0, 1) := by decide +kernel
theorem dX12_swimBits_6 : decode cX12_swimBits 6 = .ok (.getfield 81, 3) := by decide +kernel
theorem dX12_swimBits_9 : decode cX12_swimBits 9 = .ok (.if_icmp .ge 30, 3) := by decide +kernel
theorem dX12_swimBits_12 : decode cX12_swimBits 12 = .ok (.iload_n 1, 1) := by decide +kernel
theorem dX12_swimBits_13 : decode cX12_swimBits 13 = .ok (.aload_n 0, 1) := by decide +kernel
theorem dX12_swimBits_14 : decode cX12_swimBits 14 = .ok (.getfield 19, 3) := by decide +kernel
theorem dX12_swimBits_17 : decode cX12_swimBits 17 = .ok (.iload_n 2, 1) := by decide +kernel
theorem dX12_swimBits_18 : decode cX12_swimBits 18 = .ok (.iaload, 1) := by decide +kernel
theorem dX12_swimBits_19 : decode cX12_swimBits 19 = .ok (.bipush 7, 2) := by decide +kernel
theorem dX12_swimBits_21 : decode cX12_swimBits 21 = .ok (.if_icmp .ne 9, 3) := by decide +kernel
theorem dX12_swimBits_24 : decode cX12_swimBits 24 = .ok (.iconst 1, 1) := by decide +kernel
theorem dX12_swimBits_25 : decode cX12_swimBits 25 = .ok (.iload_n 2, 1) := by decide +kernel
theorem dX12_swimBits_26 : decode cX12_swimBits 26 = .ok (.ishl, 1) := by decide +kernel
theorem dX12_swimBits_27 : decode cX12_swimBits 27 = .ok (.goto 4, 3) := by decide +kernel
theorem dX12_swimBits_30 : decode cX12_swimBits 30 = .ok (.iconst 0, 1) := by decide +kernel
theorem dX12_swimBits_31 : decode cX12_swimBits 31 = .ok (.ior, 1) := by decide +kernel
theorem dX12_swimBits_32 : decode cX12_swimBits 32 = .ok (.istore_n 1, 1) := by decide +kernel
theorem dX12_swimBits_33 : decode cX12_swimBits 33 = .ok (.iinc 2 1, 3) := by decide +kernel
theorem dX12_swimBits_36 : decode cX12_swimBits 36 = .ok (.goto (-32), 3) := by decide +kernel
theorem dX12_swimBits_39 : decode cX12_swimBits 39 = .ok (.iload_n 1, 1) := by decide +kernel
theorem dX12_swimBits_40 : decode cX12_swimBits 40 = .ok (.ireturn, 1) := by decide +kernel
theorem dX12_here_0 : decode cX12_here 0 = .ok (.aload_n 0, 1) := by decide +kernel
theorem dX12_here_1 : decode cX12_here 1 = .ok (.getfield 138, 3) := by decide +kernel
theorem dX12_here_4 : decode cX12_here 4 = .ok (.aload_n 0, 1) := by decide +kernel
theorem dX12_here_5 : decode cX12_here 5 = .ok (.getfield 37, 3) := by decide +kernel
theorem dX12_here_8 : decode cX12_here 8 = .ok (.aload_n 0, 1) := by decide +kernel
theorem dX12_here_9 : decode cX12_here 9 = .ok (.getfield 141, 3) := by decide +kernel
theorem dX12_here_12 : decode cX12_here 12 = .ok (.iaload, 1) := by decide +kernel
theorem dX12_here_13 : decode cX12_here 13 = .ok (.if_icmp .ge 24, 3) := by decide +kernel
theorem dX12_here_16 : decode cX12_here 16 = .ok (.aload_n 0, 1) := by decide +kernel
theorem dX12_here_17 : decode cX12_here 17 = .ok (.getfield 40, 3) := by decide +kernel
theorem dX12_here_20 : decode cX12_here 20 = .ok (.bipush 100, 2) := by decide +kernel
theorem dX12_here_22 : decode cX12_here 22 = .ok (.aload_n 0, 1) := by decide +kernel
theorem dX12_here_23 : decode cX12_here 23 = .ok (.getfield 141, 3) := by decide +kernel
theorem dX12_here_26 : decode cX12_here 26 = .ok (.imul, 1) := by decide +kernel
theorem dX12_here_27 : decode cX12_here 27 = .ok (.aload_n 0, 1) := by decide +kernel
theorem dX12_here_28 : decode cX12_here 28 = .ok (.getfield 138, 3) := by decide +kernel
theorem dX12_here_31 : decode cX12_here 31 = .ok (.iadd, 1) := by decide +kernel
theorem dX12_here_32 : decode cX12_here 32 = .ok (.laload, 1) := by decide +kernel
theorem dX12_here_33 : decode cX12_here 33 = .ok (.l2i, 1) := by decide +kernel
theorem dX12_here_34 : decode cX12_here 34 = .ok (.goto 6, 3) := by decide +kernel
theorem dX12_here_37 : decode cX12_here 37 = .ok (.sipush (-999), 3) := by decide +kernel
theorem dX12_here_40 : decode cX12_here 40 = .ok (.ireturn, 1) := by decide +kernel
theorem dX12_readDigits_0 : decode cX12_readDigits 0 = .ok (.iconst 0, 1) := by decide +kernel
theorem dX12_readDigits_1 : decode cX12_readDigits 1 = .ok (.istore_n 2, 1) := by decide +kernel
theorem dX12_readDigits_2 : decode cX12_readDigits 2 = .ok (.iconst 0, 1) := by decide +kernel
theorem dX12_readDigits_3 : decode cX12_readDigits 3 = .ok (.istore_n 3, 1) := by decide +kernel
theorem dX12_readDigits_4 : decode cX12_readDigits 4 = .ok (.iload_n 3, 1) := by decide +kernel
theorem dX12_readDigits_5 : decode cX12_readDigits 5 = .ok (.iload_n 1, 1) := by decide +kernel
theorem dX12_readDigits_6 : decode cX12_readDigits 6 = .ok (.if_icmp .ge 87, 3) := by decide +kernel
theorem dX12_readDigits_9 : decode cX12_readDigits 9 = .ok (.aload_n 0, 1) := by decide +kernel
theorem dX12_readDigits_10 : decode cX12_readDigits 10 = .ok (.aload_n 0, 1) := by decide +kernel
theorem dX12_readDigits_11 : decode cX12_readDigits 11 = .ok (.getfield 144, 3) := by decide +kernel
theorem dX12_readDigits_14 : decode cX12_readDigits 14 = .ok (.ifCond .ne 20, 3) := by decide +kernel
theorem dX12_readDigits_17 : decode cX12_readDigits 17 = .ok (.aload_n 0, 1) := by decide +kernel
theorem dX12_readDigits_18 : decode cX12_readDigits 18 = .ok (.invokevirtual 148, 3) := by decide +kernel
theorem dX12_readDigits_21 : decode cX12_readDigits 21 = .ok (.i2l, 1) := by decide +kernel
theorem dX12_readDigits_22 : decode cX12_readDigits 22 = .ok (.ldc2_w 152, 3) := by decide +kernel
theorem dX12_readDigits_25 : decode cX12_readDigits 25 = .ok (.ldc2_w 154, 3) := by decide +kernel
theorem dX12_readDigits_28 : decode cX12_readDigits 28 = .ok (.invokestatic 84, 3) := by decide +kernel
theorem dX12_readDigits_31 : decode cX12_readDigits 31 = .ok (.ifCond .ne 7, 3) := by decide +kernel
theorem dX12_readDigits_34 : decode cX12_readDigits 34 = .ok (.iconst 1, 1) := by decide +kernel
theorem dX12_readDigits_35 : decode cX12_readDigits 35 = .ok (.goto 4, 3) := by decide +kernel
theorem dX12_readDigits_38 : decode cX12_readDigits 38 = .ok (.iconst 0, 1) := by decide +kernel
theorem dX12_readDigits_39 : decode cX12_readDigits 39 = .ok (.putfield 144, 3) := by decide +kernel
theorem dX12_readDigits_42 : decode cX12_readDigits 42 = .ok (.aload_n 0, 1) := by decide +kernel
theorem dX12_readDigits_43 : decode cX12_readDigits 43 = .ok (.getfield 144, 3) := by decide +kernel
theorem dX12_readDigits_46 : decode cX12_readDigits 46 = .ok (.ifCond .eq 7, 3) := by decide +kernel
theorem dX12_readDigits_49 : decode cX12_readDigits 49 = .ok (.iconst 0, 1) := by decide +kernel
theorem dX12_readDigits_50 : decode cX12_readDigits 50 = .ok (.goto 15, 3) := by decide +kernel
theorem dX12_readDigits_53 : decode cX12_readDigits 53 = .ok (.bipush 10, 2) := by decide +kernel
theorem dX12_readDigits_55 : decode cX12_readDigits 55 = .ok (.iload_n 2, 1) := by decide +kernel
theorem dX12_readDigits_56 : decode cX12_readDigits 56 = .ok (.imul, 1) := by decide +kernel
theorem dX12_readDigits_57 : decode cX12_readDigits 57 = .ok (.aload_n 0, 1) := by decide +kernel
theorem dX12_readDigits_58 : decode cX12_readDigits 58 = .ok (.invokevirtual 148, 3) := by decide +kernel
theorem dX12_readDigits_61 : decode cX12_readDigits 61 = .ok (.iadd, 1) := by decide +kernel
theorem dX12_readDigits_62 : decode cX12_readDigits 62 = .ok (.bipush 48, 2) := by decide +kernel
theorem dX12_readDigits_64 : decode cX12_readDigits 64 = .ok (.isub, 1) := by decide +kernel
theorem dX12_readDigits_65 : decode cX12_readDigits 65 = .ok (.istore_n 2, 1) := by decide +kernel
theorem dX12_readDigits_66 : decode cX12_readDigits 66 = .ok (.aload_n 0, 1) := by decide +kernel
theorem dX12_readDigits_67 : decode cX12_readDigits 67 = .ok (.dup, 1) := by decide +kernel
theorem dX12_readDigits_68 : decode cX12_readDigits 68 = .ok (.getfield 138, 3) := by decide +kernel
theorem dX12_readDigits_71 : decode cX12_readDigits 71 = .ok (.aload_n 0, 1) := by decide +kernel
theorem dX12_readDigits_72 : decode cX12_readDigits 72 = .ok (.getfield 144, 3) := by decide +kernel
theorem dX12_readDigits_75 : decode cX12_readDigits 75 = .ok (.ifCond .eq 7, 3) := by decide +kernel
theorem dX12_readDigits_78 : decode cX12_readDigits 78 = .ok (.iconst 0, 1) := by decide +kernel
theorem dX12_readDigits_79 : decode cX12_readDigits 79 = .ok (.goto 4, 3) := by decide +kernel
theorem dX12_readDigits_82 : decode cX12_readDigits 82 = .ok (.iconst 1, 1) := by decide +kernel
theorem dX12_readDigits_83 : decode cX12_readDigits 83 = .ok (.iadd, 1) := by decide +kernel
theorem dX12_readDigits_84 : decode cX12_readDigits 84 = .ok (.putfield 138, 3) := by decide +kernel
theorem dX12_readDigits_87 : decode cX12_readDigits 87 = .ok (.iinc 3 1, 3) := by decide +kernel
theorem dX12_readDigits_90 : decode cX12_readDigits 90 = .ok (.goto (-86), 3) := by decide +kernel
theorem dX12_readDigits_93 : decode cX12_readDigits 93 = .ok (.iload_n 2, 1) := by decide +kernel
theorem dX12_readDigits_94 : decode cX12_readDigits 94 = .ok (.ireturn, 1) := by decide +kernel
theorem dX12_isLetter_0 : decode cX12_isLetter 0 = .ok (.iload_n 0, 1) := by decide +kernel
theorem dX12_isLetter_1 : decode cX12_isLetter 1 = .ok (.bipush 99, 2) := by decide +kernel
theorem dX12_isLetter_3 : decode cX12_isLetter 3 = .ok (.if_icmp .eq 33, 3) := by decide +kernel
theorem dX12_isLetter_6 : decode cX12_isLetter 6 = .ok (.iload_n 0, 1) := by decide +kernel
theorem dX12_isLetter_7 : decode cX12_isLetter 7 = .ok (.bipush 109, 2) := by decide +kernel
theorem dX12_isLetter_9 : decode cX12_isLetter 9 = .ok (.if_icmp .eq 27, 3) := by decide +kernel
theorem dX12_isLetter_12 : decode cX12_isLetter 12 = .ok (.iload_n 0, 1) := by decide +kernel
theorem dX12_isLetter_13 : decode cX12_isLetter 13 = .ok (.bipush 98, 2) := by decide +kernel
theorem dX12_isLetter_15 : decode cX12_isLetter 15 = .ok (.if_icmp .eq 21, 3) := by decide +kernel
theorem dX12_isLetter_18 : decode cX12_isLetter 18 = .ok (.iload_n 0, 1) := by decide +kernel
theorem dX12_isLetter_19 : decode cX12_isLetter 19 = .ok (.bipush 120, 2) := by decide +kernel
theorem dX12_isLetter_21 : decode cX12_isLetter 21 = .ok (.if_icmp .eq 15, 3) := by decide +kernel
theorem dX12_isLetter_24 : decode cX12_isLetter 24 = .ok (.iload_n 0, 1) := by decide +kernel
theorem dX12_isLetter_25 : decode cX12_isLetter 25 = .ok (.bipush 116, 2) := by decide +kernel
theorem dX12_isLetter_27 : decode cX12_isLetter 27 = .ok (.if_icmp .eq 9, 3) := by decide +kernel
theorem dX12_isLetter_30 : decode cX12_isLetter 30 = .ok (.iload_n 0, 1) := by decide +kernel
theorem dX12_isLetter_31 : decode cX12_isLetter 31 = .ok (.bipush 115, 2) := by decide +kernel
theorem dX12_isLetter_33 : decode cX12_isLetter 33 = .ok (.if_icmp .ne 7, 3) := by decide +kernel
theorem dX12_isLetter_36 : decode cX12_isLetter 36 = .ok (.iconst 1, 1) := by decide +kernel
theorem dX12_isLetter_37 : decode cX12_isLetter 37 = .ok (.goto 4, 3) := by decide +kernel
theorem dX12_isLetter_40 : decode cX12_isLetter 40 = .ok (.iconst 0, 1) := by decide +kernel
theorem dX12_isLetter_41 : decode cX12_isLetter 41 = .ok (.ireturn, 1) := by decide +kernel
theorem dX12_readNumbers_0 : decode cX12_readNumbers 0 = .ok (.aload_n 0, 1) := by decide +kernel
theorem dX12_readNumbers_1 : decode cX12_readNumbers 1 = .ok (.getfield 50, 3) := by decide +kernel
theorem dX12_readNumbers_4 : decode cX12_readNumbers 4 = .ok (.iload_n 2, 1) := by decide +kernel
theorem dX12_readNumbers_5 : decode cX12_readNumbers 5 = .ok (.aload_n 0, 1) := by decide +kernel
theorem dX12_readNumbers_6 : decode cX12_readNumbers 6 = .ok (.iconst 1, 1) := by decide +kernel
theorem dX12_readNumbers_7 : decode cX12_readNumbers 7 = .ok (.invokevirtual 156, 3) := by decide +kernel
theorem dX12_readNumbers_10 : decode cX12_readNumbers 10 = .ok (.iastore, 1) := by decide +kernel
theorem dX12_readNumbers_11 : decode cX12_readNumbers 11 = .ok (.iload_n 1, 1) := by decide +kernel
theorem dX12_readNumbers_12 : decode cX12_readNumbers 12 = .ok (.bipush 99, 2) := by decide +kernel
theorem dX12_readNumbers_14 : decode cX12_readNumbers 14 = .ok (.if_icmp .ne 32, 3) := by decide +kernel
theorem dX12_readNumbers_17 : decode cX12_readNumbers 17 = .ok (.aload_n 0, 1) := by decide +kernel
theorem dX12_readNumbers_18 : decode cX12_readNumbers 18 = .ok (.getfield 50, 3) := by decide +kernel
theorem dX12_readNumbers_21 : decode cX12_readNumbers 21 = .ok (.iload_n 2, 1) := by decide +kernel
theorem dX12_readNumbers_22 : decode cX12_readNumbers 22 = .ok (.iconst 1, 1) := by decide +kernel
theorem dX12_readNumbers_23 : decode cX12_readNumbers 23 = .ok (.iadd, 1) := by decide +kernel
theorem dX12_readNumbers_24 : decode cX12_readNumbers 24 = .ok (.aload_n 0, 1) := by decide +kernel
theorem dX12_readNumbers_25 : decode cX12_readNumbers 25 = .ok (.iconst 1, 1) := by decide +kernel
theorem dX12_readNumbers_26 : decode cX12_readNumbers 26 = .ok (.invokevirtual 156, 3) := by decide +kernel
theorem dX12_readNumbers_29 : decode cX12_readNumbers 29 = .ok (.iastore, 1) := by decide +kernel
theorem dX12_readNumbers_30 : decode cX12_readNumbers 30 = .ok (.aload_n 0, 1) := by decide +kernel
theorem dX12_readNumbers_31 : decode cX12_readNumbers 31 = .ok (.getfield 50, 3) := by decide +kernel
theorem dX12_readNumbers_34 : decode cX12_readNumbers 34 = .ok (.iload_n 2, 1) := by decide +kernel
theorem dX12_readNumbers_35 : decode cX12_readNumbers 35 = .ok (.iconst 2, 1) := by decide +kernel
theorem dX12_readNumbers_36 : decode cX12_readNumbers 36 = .ok (.iadd, 1) := by decide +kernel
theorem dX12_readNumbers_37 : decode cX12_readNumbers 37 = .ok (.aload_n 0, 1) := by decide +kernel
theorem dX12_readNumbers_38 : decode cX12_readNumbers 38 = .ok (.iconst 2, 1) := by decide +kernel
theorem dX12_readNumbers_39 : decode cX12_readNumbers 39 = .ok (.invokevirtual 156, 3) := by decide +kernel
theorem dX12_readNumbers_42 : decode cX12_readNumbers 42 = .ok (.iastore, 1) := by decide +kernel
theorem dX12_readNumbers_43 : decode cX12_readNumbers 43 = .ok (.goto 32, 3) := by decide +kernel
theorem dX12_readNumbers_46 : decode cX12_readNumbers 46 = .ok (.iload_n 1, 1) := by decide +kernel
theorem dX12_readNumbers_47 : decode cX12_readNumbers 47 = .ok (.bipush 98, 2) := by decide +kernel
theorem dX12_readNumbers_49 : decode cX12_readNumbers 49 = .ok (.if_icmp .eq 26, 3) := by decide +kernel
theorem dX12_readNumbers_52 : decode cX12_readNumbers 52 = .ok (.aload_n 0, 1) := by decide +kernel
theorem dX12_readNumbers_53 : decode cX12_readNumbers 53 = .ok (.getfield 50, 3) := by decide +kernel
theorem dX12_readNumbers_56 : decode cX12_readNumbers 56 = .ok (.iload_n 2, 1) := by decide +kernel
theorem dX12_readNumbers_57 : decode cX12_readNumbers 57 = .ok (.iconst 1, 1) := by decide +kernel
theorem dX12_readNumbers_58 : decode cX12_readNumbers 58 = .ok (.iadd, 1) := by decide +kernel
theorem dX12_readNumbers_59 : decode cX12_readNumbers 59 = .ok (.aload_n 0, 1) := by decide +kernel
theorem dX12_readNumbers_60 : decode cX12_readNumbers 60 = .ok (.iload_n 1, 1) := by decide +kernel
theorem dX12_readNumbers_61 : decode cX12_readNumbers 61 = .ok (.bipush 116, 2) := by decide +kernel
theorem dX12_readNumbers_63 : decode cX12_readNumbers 63 = .ok (.if_icmp .ne 7, 3) := by decide +kernel
theorem dX12_readNumbers_66 : decode cX12_readNumbers 66 = .ok (.iconst 2, 1) := by decide +kernel
theorem dX12_readNumbers_67 : decode cX12_readNumbers 67 = .ok (.goto 4, 3) := by decide +kernel
theorem dX12_readNumbers_70 : decode cX12_readNumbers 70 = .ok (.iconst 1, 1) := by decide +kernel
theorem dX12_readNumbers_71 : decode cX12_readNumbers 71 = .ok (.invokevirtual 156, 3) := by decide +kernel
theorem dX12_readNumbers_74 : decode cX12_readNumbers 74 = .ok (.iastore, 1) := by decide +kernel
theorem dX12_readNumbers_75 : decode cX12_readNumbers 75 = .ok (.return_, 1) := by decide +kernel
theorem dX12_readStatement_0 : decode cX12_readStatement 0 = .ok (.aload_n 0, 1) := by decide +kernel
theorem dX12_readStatement_1 : decode cX12_readStatement 1 = .ok (.getfield 159, 3) := by decide +kernel
theorem dX12_readStatement_4 : decode cX12_readStatement 4 = .ok (.istore_n 1, 1) := by decide +kernel
theorem dX12_readStatement_5 : decode cX12_readStatement 5 = .ok (.aload_n 0, 1) := by decide +kernel
theorem dX12_readStatement_6 : decode cX12_readStatement 6 = .ok (.invokevirtual 148, 3) := by decide +kernel
theorem dX12_readStatement_9 : decode cX12_readStatement 9 = .ok (.istore_n 2, 1) := by decide +kernel
theorem dX12_readStatement_10 : decode cX12_readStatement 10 = .ok (.aload_n 0, 1) := by decide +kernel
theorem dX12_readStatement_11 : decode cX12_readStatement 11 = .ok (.getfield 44, 3) := by decide +kernel
theorem dX12_readStatement_14 : decode cX12_readStatement 14 = .ok (.iload_n 1, 1) := by decide +kernel
theorem dX12_readStatement_15 : decode cX12_readStatement 15 = .ok (.aload_n 0, 1) := by decide +kernel
end
section
theorem dX12_readStatement_16 : decode cX12_readStatement 16 = .ok (.getfield 138, 3) := by decide +kernel
theorem dX12_readStatement_19 : decode cX12_readStatement 19 = .ok (.iastore, 1) := by decide +kernel
theorem dX12_readStatement_20 : decode cX12_readStatement 20 = .ok (.aload_n 0, 1) := by decide +kernel
theorem dX12_readStatement_21 : decode cX12_readStatement 21 = .ok (.getfield 47, 3) := by decide +kernel
theorem dX12_readStatement_24 : decode cX12_readStatement 24 = .ok (.iload_n 1, 1) := by decide +kernel
theorem dX12_readStatement_25 : decode cX12_readStatement 25 = .ok (.iload_n 2, 1) := by decide +kernel
theorem dX12_readStatement_26 : decode cX12_readStatement 26 = .ok (.iastore, 1) := by decide +kernel
theorem dX12_readStatement_27 : decode cX12_readStatement 27 = .ok (.aload_n 0, 1) := by decide +kernel
theorem dX12_readStatement_28 : decode cX12_readStatement 28 = .ok (.aload_n 0, 1) := by decide +kernel
theorem dX12_readStatement_29 : decode cX12_readStatement 29 = .ok (.getfield 144, 3) := by decide +kernel
theorem dX12_readStatement_32 : decode cX12_readStatement 32 = .ok (.ifCond .ne 10, 3) := by decide +kernel
theorem dX12_readStatement_35 : decode cX12_readStatement 35 = .ok (.iload_n 2, 1) := by decide +kernel
theorem dX12_readStatement_36 : decode cX12_readStatement 36 = .ok (.invokestatic 162, 3) := by decide +kernel
theorem dX12_readStatement_39 : decode cX12_readStatement 39 = .ok (.ifCond .ne 7, 3) := by decide +kernel
theorem dX12_readStatement_42 : decode cX12_readStatement 42 = .ok (.iconst 1, 1) := by decide +kernel
theorem dX12_readStatement_43 : decode cX12_readStatement 43 = .ok (.goto 4, 3) := by decide +kernel
theorem dX12_readStatement_46 : decode cX12_readStatement 46 = .ok (.iconst 0, 1) := by decide +kernel
theorem dX12_readStatement_47 : decode cX12_readStatement 47 = .ok (.putfield 144, 3) := by decide +kernel
theorem dX12_readStatement_50 : decode cX12_readStatement 50 = .ok (.aload_n 0, 1) := by decide +kernel
theorem dX12_readStatement_51 : decode cX12_readStatement 51 = .ok (.dup, 1) := by decide +kernel
theorem dX12_readStatement_52 : decode cX12_readStatement 52 = .ok (.getfield 138, 3) := by decide +kernel
theorem dX12_readStatement_55 : decode cX12_readStatement 55 = .ok (.aload_n 0, 1) := by decide +kernel
theorem dX12_readStatement_56 : decode cX12_readStatement 56 = .ok (.getfield 144, 3) := by decide +kernel
theorem dX12_readStatement_59 : decode cX12_readStatement 59 = .ok (.ifCond .eq 7, 3) := by decide +kernel
theorem dX12_readStatement_62 : decode cX12_readStatement 62 = .ok (.iconst 0, 1) := by decide +kernel
theorem dX12_readStatement_63 : decode cX12_readStatement 63 = .ok (.goto 4, 3) := by decide +kernel
theorem dX12_readStatement_66 : decode cX12_readStatement 66 = .ok (.iconst 1, 1) := by decide +kernel
theorem dX12_readStatement_67 : decode cX12_readStatement 67 = .ok (.iadd, 1) := by decide +kernel
theorem dX12_readStatement_68 : decode cX12_readStatement 68 = .ok (.putfield 138, 3) := by decide +kernel
theorem dX12_readStatement_71 : decode cX12_readStatement 71 = .ok (.aload_n 0, 1) := by decide +kernel
theorem dX12_readStatement_72 : decode cX12_readStatement 72 = .ok (.getfield 144, 3) := by decide +kernel
theorem dX12_readStatement_75 : decode cX12_readStatement 75 = .ok (.ifCond .ne 11, 3) := by decide +kernel
theorem dX12_readStatement_78 : decode cX12_readStatement 78 = .ok (.aload_n 0, 1) := by decide +kernel
theorem dX12_readStatement_79 : decode cX12_readStatement 79 = .ok (.iload_n 2, 1) := by decide +kernel
theorem dX12_readStatement_80 : decode cX12_readStatement 80 = .ok (.iconst 3, 1) := by decide +kernel
theorem dX12_readStatement_81 : decode cX12_readStatement 81 = .ok (.iload_n 1, 1) := by decide +kernel
theorem dX12_readStatement_82 : decode cX12_readStatement 82 = .ok (.imul, 1) := by decide +kernel
theorem dX12_readStatement_83 : decode cX12_readStatement 83 = .ok (.invokevirtual 165, 3) := by decide +kernel
theorem dX12_readStatement_86 : decode cX12_readStatement 86 = .ok (.aload_n 0, 1) := by decide +kernel
theorem dX12_readStatement_87 : decode cX12_readStatement 87 = .ok (.aload_n 0, 1) := by decide +kernel
theorem dX12_readStatement_88 : decode cX12_readStatement 88 = .ok (.getfield 144, 3) := by decide +kernel
theorem dX12_readStatement_91 : decode cX12_readStatement 91 = .ok (.ifCond .ne 12, 3) := by decide +kernel
theorem dX12_readStatement_94 : decode cX12_readStatement 94 = .ok (.aload_n 0, 1) := by decide +kernel
theorem dX12_readStatement_95 : decode cX12_readStatement 95 = .ok (.invokevirtual 148, 3) := by decide +kernel
theorem dX12_readStatement_98 : decode cX12_readStatement 98 = .ok (.bipush 59, 2) := by decide +kernel
theorem dX12_readStatement_100 : decode cX12_readStatement 100 = .ok (.if_icmp .eq 7, 3) := by decide +kernel
theorem dX12_readStatement_103 : decode cX12_readStatement 103 = .ok (.iconst 1, 1) := by decide +kernel
theorem dX12_readStatement_104 : decode cX12_readStatement 104 = .ok (.goto 4, 3) := by decide +kernel
theorem dX12_readStatement_107 : decode cX12_readStatement 107 = .ok (.iconst 0, 1) := by decide +kernel
theorem dX12_readStatement_108 : decode cX12_readStatement 108 = .ok (.putfield 144, 3) := by decide +kernel
theorem dX12_readStatement_111 : decode cX12_readStatement 111 = .ok (.aload_n 0, 1) := by decide +kernel
theorem dX12_readStatement_112 : decode cX12_readStatement 112 = .ok (.dup, 1) := by decide +kernel
theorem dX12_readStatement_113 : decode cX12_readStatement 113 = .ok (.getfield 138, 3) := by decide +kernel
theorem dX12_readStatement_116 : decode cX12_readStatement 116 = .ok (.aload_n 0, 1) := by decide +kernel
theorem dX12_readStatement_117 : decode cX12_readStatement 117 = .ok (.getfield 144, 3) := by decide +kernel
theorem dX12_readStatement_120 : decode cX12_readStatement 120 = .ok (.ifCond .eq 7, 3) := by decide +kernel
theorem dX12_readStatement_123 : decode cX12_readStatement 123 = .ok (.iconst 0, 1) := by decide +kernel
theorem dX12_readStatement_124 : decode cX12_readStatement 124 = .ok (.goto 4, 3) := by decide +kernel
theorem dX12_readStatement_127 : decode cX12_readStatement 127 = .ok (.iconst 1, 1) := by decide +kernel
theorem dX12_readStatement_128 : decode cX12_readStatement 128 = .ok (.iadd, 1) := by decide +kernel
theorem dX12_readStatement_129 : decode cX12_readStatement 129 = .ok (.putfield 138, 3) := by decide +kernel
theorem dX12_readStatement_132 : decode cX12_readStatement 132 = .ok (.aload_n 0, 1) := by decide +kernel
theorem dX12_readStatement_133 : decode cX12_readStatement 133 = .ok (.dup, 1) := by decide +kernel
theorem dX12_readStatement_134 : decode cX12_readStatement 134 = .ok (.getfield 159, 3) := by decide +kernel
theorem dX12_readStatement_137 : decode cX12_readStatement 137 = .ok (.iconst 1, 1) := by decide +kernel
theorem dX12_readStatement_138 : decode cX12_readStatement 138 = .ok (.iadd, 1) := by decide +kernel
theorem dX12_readStatement_139 : decode cX12_readStatement 139 = .ok (.putfield 159, 3) := by decide +kernel
theorem dX12_readStatement_142 : decode cX12_readStatement 142 = .ok (.return_, 1) := by decide +kernel
theorem dX12_childComes_0 : decode cX12_childComes 0 = .ok (.iload_n 1, 1) := by decide +kernel
theorem dX12_childComes_1 : decode cX12_childComes 1 = .ok (.bipush 8, 2) := by decide +kernel
theorem dX12_childComes_3 : decode cX12_childComes 3 = .ok (.if_icmp .ge 22, 3) := by decide +kernel
theorem dX12_childComes_6 : decode cX12_childComes 6 = .ok (.iload_n 3, 1) := by decide +kernel
theorem dX12_childComes_7 : decode cX12_childComes 7 = .ok (.bipush 20, 2) := by decide +kernel
theorem dX12_childComes_9 : decode cX12_childComes 9 = .ok (.if_icmp .gt 16, 3) := by decide +kernel
theorem dX12_childComes_12 : decode cX12_childComes 12 = .ok (.aload_n 0, 1) := by decide +kernel
theorem dX12_childComes_13 : decode cX12_childComes 13 = .ok (.getfield 81, 3) := by decide +kernel
theorem dX12_childComes_16 : decode cX12_childComes 16 = .ok (.bipush 6, 2) := by decide +kernel
theorem dX12_childComes_18 : decode cX12_childComes 18 = .ok (.if_icmp .ge 7, 3) := by decide +kernel
theorem dX12_childComes_21 : decode cX12_childComes 21 = .ok (.iconst 1, 1) := by decide +kernel
theorem dX12_childComes_22 : decode cX12_childComes 22 = .ok (.goto 4, 3) := by decide +kernel
theorem dX12_childComes_25 : decode cX12_childComes 25 = .ok (.iconst 0, 1) := by decide +kernel
theorem dX12_childComes_26 : decode cX12_childComes 26 = .ok (.istore 4, 2) := by decide +kernel
theorem dX12_childComes_28 : decode cX12_childComes 28 = .ok (.iload 4, 2) := by decide +kernel
theorem dX12_childComes_30 : decode cX12_childComes 30 = .ok (.ifCond .eq 63, 3) := by decide +kernel
theorem dX12_childComes_33 : decode cX12_childComes 33 = .ok (.aload_n 0, 1) := by decide +kernel
theorem dX12_childComes_34 : decode cX12_childComes 34 = .ok (.getfield 7, 3) := by decide +kernel
theorem dX12_childComes_37 : decode cX12_childComes 37 = .ok (.aload_n 0, 1) := by decide +kernel
theorem dX12_childComes_38 : decode cX12_childComes 38 = .ok (.getfield 81, 3) := by decide +kernel
theorem dX12_childComes_41 : decode cX12_childComes 41 = .ok (.iload_n 1, 1) := by decide +kernel
theorem dX12_childComes_42 : decode cX12_childComes 42 = .ok (.iastore, 1) := by decide +kernel
theorem dX12_childComes_43 : decode cX12_childComes 43 = .ok (.aload_n 0, 1) := by decide +kernel
theorem dX12_childComes_44 : decode cX12_childComes 44 = .ok (.getfield 13, 3) := by decide +kernel
theorem dX12_childComes_47 : decode cX12_childComes 47 = .ok (.aload_n 0, 1) := by decide +kernel
theorem dX12_childComes_48 : decode cX12_childComes 48 = .ok (.getfield 81, 3) := by decide +kernel
theorem dX12_childComes_51 : decode cX12_childComes 51 = .ok (.iload_n 2, 1) := by decide +kernel
theorem dX12_childComes_52 : decode cX12_childComes 52 = .ok (.iastore, 1) := by decide +kernel
theorem dX12_childComes_53 : decode cX12_childComes 53 = .ok (.aload_n 0, 1) := by decide +kernel
theorem dX12_childComes_54 : decode cX12_childComes 54 = .ok (.getfield 16, 3) := by decide +kernel
theorem dX12_childComes_57 : decode cX12_childComes 57 = .ok (.aload_n 0, 1) := by decide +kernel
theorem dX12_childComes_58 : decode cX12_childComes 58 = .ok (.getfield 81, 3) := by decide +kernel
theorem dX12_childComes_61 : decode cX12_childComes 61 = .ok (.iload_n 3, 1) := by decide +kernel
theorem dX12_childComes_62 : decode cX12_childComes 62 = .ok (.iastore, 1) := by decide +kernel
theorem dX12_childComes_63 : decode cX12_childComes 63 = .ok (.aload_n 0, 1) := by decide +kernel
theorem dX12_childComes_64 : decode cX12_childComes 64 = .ok (.getfield 19, 3) := by decide +kernel
theorem dX12_childComes_67 : decode cX12_childComes 67 = .ok (.aload_n 0, 1) := by decide +kernel
theorem dX12_childComes_68 : decode cX12_childComes 68 = .ok (.getfield 81, 3) := by decide +kernel
theorem dX12_childComes_71 : decode cX12_childComes 71 = .ok (.iconst 0, 1) := by decide +kernel
theorem dX12_childComes_72 : decode cX12_childComes 72 = .ok (.iastore, 1) := by decide +kernel
theorem dX12_childComes_73 : decode cX12_childComes 73 = .ok (.aload_n 0, 1) := by decide +kernel
theorem dX12_childComes_74 : decode cX12_childComes 74 = .ok (.getfield 22, 3) := by decide +kernel
theorem dX12_childComes_77 : decode cX12_childComes 77 = .ok (.aload_n 0, 1) := by decide +kernel
theorem dX12_childComes_78 : decode cX12_childComes 78 = .ok (.getfield 81, 3) := by decide +kernel
theorem dX12_childComes_81 : decode cX12_childComes 81 = .ok (.iconst 0, 1) := by decide +kernel
theorem dX12_childComes_82 : decode cX12_childComes 82 = .ok (.iastore, 1) := by decide +kernel
theorem dX12_childComes_83 : decode cX12_childComes 83 = .ok (.aload_n 0, 1) := by decide +kernel
theorem dX12_childComes_84 : decode cX12_childComes 84 = .ok (.dup, 1) := by decide +kernel
theorem dX12_childComes_85 : decode cX12_childComes 85 = .ok (.getfield 81, 3) := by decide +kernel
theorem dX12_childComes_88 : decode cX12_childComes 88 = .ok (.iconst 1, 1) := by decide +kernel
theorem dX12_childComes_89 : decode cX12_childComes 89 = .ok (.iadd, 1) := by decide +kernel
theorem dX12_childComes_90 : decode cX12_childComes 90 = .ok (.putfield 81, 3) := by decide +kernel
theorem dX12_childComes_93 : decode cX12_childComes 93 = .ok (.iload 4, 2) := by decide +kernel
theorem dX12_childComes_95 : decode cX12_childComes 95 = .ok (.ireturn, 1) := by decide +kernel
theorem dX12_minuteComes_0 : decode cX12_minuteComes 0 = .ok (.aload_n 0, 1) := by decide +kernel
theorem dX12_minuteComes_1 : decode cX12_minuteComes 1 = .ok (.iload_n 1, 1) := by decide +kernel
theorem dX12_minuteComes_2 : decode cX12_minuteComes 2 = .ok (.invokevirtual 99, 3) := by decide +kernel
theorem dX12_minuteComes_5 : decode cX12_minuteComes 5 = .ok (.ifCond .eq 33, 3) := by decide +kernel
theorem dX12_minuteComes_8 : decode cX12_minuteComes 8 = .ok (.iload_n 2, 1) := by decide +kernel
theorem dX12_minuteComes_9 : decode cX12_minuteComes 9 = .ok (.iconst 4, 1) := by decide +kernel
theorem dX12_minuteComes_10 : decode cX12_minuteComes 10 = .ok (.if_icmp .ge 28, 3) := by decide +kernel
theorem dX12_minuteComes_13 : decode cX12_minuteComes 13 = .ok (.aload_n 0, 1) := by decide +kernel
theorem dX12_minuteComes_14 : decode cX12_minuteComes 14 = .ok (.getfield 19, 3) := by decide +kernel
theorem dX12_minuteComes_17 : decode cX12_minuteComes 17 = .ok (.iload_n 1, 1) := by decide +kernel
theorem dX12_minuteComes_18 : decode cX12_minuteComes 18 = .ok (.iaload, 1) := by decide +kernel
theorem dX12_minuteComes_19 : decode cX12_minuteComes 19 = .ok (.bipush 7, 2) := by decide +kernel
theorem dX12_minuteComes_21 : decode cX12_minuteComes 21 = .ok (.if_icmp .ge 17, 3) := by decide +kernel
theorem dX12_minuteComes_24 : decode cX12_minuteComes 24 = .ok (.aload_n 0, 1) := by decide +kernel
theorem dX12_minuteComes_25 : decode cX12_minuteComes 25 = .ok (.getfield 135, 3) := by decide +kernel
theorem dX12_minuteComes_28 : decode cX12_minuteComes 28 = .ok (.sipush 999, 3) := by decide +kernel
theorem dX12_minuteComes_31 : decode cX12_minuteComes 31 = .ok (.if_icmp .ge 7, 3) := by decide +kernel
theorem dX12_minuteComes_34 : decode cX12_minuteComes 34 = .ok (.iconst 1, 1) := by decide +kernel
theorem dX12_minuteComes_35 : decode cX12_minuteComes 35 = .ok (.goto 4, 3) := by decide +kernel
theorem dX12_minuteComes_38 : decode cX12_minuteComes 38 = .ok (.iconst 0, 1) := by decide +kernel
theorem dX12_minuteComes_39 : decode cX12_minuteComes 39 = .ok (.istore_n 3, 1) := by decide +kernel
theorem dX12_minuteComes_40 : decode cX12_minuteComes 40 = .ok (.iload_n 3, 1) := by decide +kernel
theorem dX12_minuteComes_41 : decode cX12_minuteComes 41 = .ok (.ifCond .eq 9, 3) := by decide +kernel
theorem dX12_minuteComes_44 : decode cX12_minuteComes 44 = .ok (.aload_n 0, 1) := by decide +kernel
theorem dX12_minuteComes_45 : decode cX12_minuteComes 45 = .ok (.iload_n 1, 1) := by decide +kernel
theorem dX12_minuteComes_46 : decode cX12_minuteComes 46 = .ok (.iload_n 2, 1) := by decide +kernel
theorem dX12_minuteComes_47 : decode cX12_minuteComes 47 = .ok (.invokevirtual 168, 3) := by decide +kernel
theorem dX12_minuteComes_50 : decode cX12_minuteComes 50 = .ok (.iload_n 3, 1) := by decide +kernel
theorem dX12_minuteComes_51 : decode cX12_minuteComes 51 = .ok (.ireturn, 1) := by decide +kernel
theorem dX12_swapNumbers_0 : decode cX12_swapNumbers 0 = .ok (.aload_n 1, 1) := by decide +kernel
theorem dX12_swapNumbers_1 : decode cX12_swapNumbers 1 = .ok (.iload_n 2, 1) := by decide +kernel
theorem dX12_swapNumbers_2 : decode cX12_swapNumbers 2 = .ok (.iaload, 1) := by decide +kernel
theorem dX12_swapNumbers_3 : decode cX12_swapNumbers 3 = .ok (.istore 4, 2) := by decide +kernel
theorem dX12_swapNumbers_5 : decode cX12_swapNumbers 5 = .ok (.aload_n 1, 1) := by decide +kernel
theorem dX12_swapNumbers_6 : decode cX12_swapNumbers 6 = .ok (.iload_n 2, 1) := by decide +kernel
theorem dX12_swapNumbers_7 : decode cX12_swapNumbers 7 = .ok (.aload_n 1, 1) := by decide +kernel
theorem dX12_swapNumbers_8 : decode cX12_swapNumbers 8 = .ok (.iload_n 3, 1) := by decide +kernel
theorem dX12_swapNumbers_9 : decode cX12_swapNumbers 9 = .ok (.iaload, 1) := by decide +kernel
theorem dX12_swapNumbers_10 : decode cX12_swapNumbers 10 = .ok (.iastore, 1) := by decide +kernel
theorem dX12_swapNumbers_11 : decode cX12_swapNumbers 11 = .ok (.aload_n 1, 1) := by decide +kernel
theorem dX12_swapNumbers_12 : decode cX12_swapNumbers 12 = .ok (.iload_n 3, 1) := by decide +kernel
theorem dX12_swapNumbers_13 : decode cX12_swapNumbers 13 = .ok (.iload 4, 2) := by decide +kernel
theorem dX12_swapNumbers_15 : decode cX12_swapNumbers 15 = .ok (.iastore, 1) := by decide +kernel
theorem dX12_swapNumbers_16 : decode cX12_swapNumbers 16 = .ok (.return_, 1) := by decide +kernel
theorem dX12_swapAll_0 : decode cX12_swapAll 0 = .ok (.aload_n 0, 1) := by decide +kernel
theorem dX12_swapAll_1 : decode cX12_swapAll 1 = .ok (.aload_n 0, 1) := by decide +kernel
theorem dX12_swapAll_2 : decode cX12_swapAll 2 = .ok (.getfield 7, 3) := by decide +kernel
theorem dX12_swapAll_5 : decode cX12_swapAll 5 = .ok (.iload_n 1, 1) := by decide +kernel
theorem dX12_swapAll_6 : decode cX12_swapAll 6 = .ok (.iload_n 2, 1) := by decide +kernel
theorem dX12_swapAll_7 : decode cX12_swapAll 7 = .ok (.invokevirtual 171, 3) := by decide +kernel
theorem dX12_swapAll_10 : decode cX12_swapAll 10 = .ok (.aload_n 0, 1) := by decide +kernel
theorem dX12_swapAll_11 : decode cX12_swapAll 11 = .ok (.aload_n 0, 1) := by decide +kernel
theorem dX12_swapAll_12 : decode cX12_swapAll 12 = .ok (.getfield 13, 3) := by decide +kernel
theorem dX12_swapAll_15 : decode cX12_swapAll 15 = .ok (.iload_n 1, 1) := by decide +kernel
theorem dX12_swapAll_16 : decode cX12_swapAll 16 = .ok (.iload_n 2, 1) := by decide +kernel
theorem dX12_swapAll_17 : decode cX12_swapAll 17 = .ok (.invokevirtual 171, 3) := by decide +kernel
theorem dX12_swapAll_20 : decode cX12_swapAll 20 = .ok (.aload_n 0, 1) := by decide +kernel
theorem dX12_swapAll_21 : decode cX12_swapAll 21 = .ok (.aload_n 0, 1) := by decide +kernel
theorem dX12_swapAll_22 : decode cX12_swapAll 22 = .ok (.getfield 16, 3) := by decide +kernel
theorem dX12_swapAll_25 : decode cX12_swapAll 25 = .ok (.iload_n 1, 1) := by decide +kernel
theorem dX12_swapAll_26 : decode cX12_swapAll 26 = .ok (.iload_n 2, 1) := by decide +kernel
theorem dX12_swapAll_27 : decode cX12_swapAll 27 = .ok (.invokevirtual 171, 3) := by decide +kernel
theorem dX12_swapAll_30 : decode cX12_swapAll 30 = .ok (.aload_n 0, 1) := by decide +kernel
theorem dX12_swapAll_31 : decode cX12_swapAll 31 = .ok (.aload_n 0, 1) := by decide +kernel
theorem dX12_swapAll_32 : decode cX12_swapAll 32 = .ok (.getfield 19, 3) := by decide +kernel
theorem dX12_swapAll_35 : decode cX12_swapAll 35 = .ok (.iload_n 1, 1) := by decide +kernel
theorem dX12_swapAll_36 : decode cX12_swapAll 36 = .ok (.iload_n 2, 1) := by decide +kernel
theorem dX12_swapAll_37 : decode cX12_swapAll 37 = .ok (.invokevirtual 171, 3) := by decide +kernel
theorem dX12_swapAll_40 : decode cX12_swapAll 40 = .ok (.aload_n 0, 1) := by decide +kernel
theorem dX12_swapAll_41 : decode cX12_swapAll 41 = .ok (.aload_n 0, 1) := by decide +kernel
theorem dX12_swapAll_42 : decode cX12_swapAll 42 = .ok (.getfield 22, 3) := by decide +kernel
theorem dX12_swapAll_45 : decode cX12_swapAll 45 = .ok (.iload_n 1, 1) := by decide +kernel
theorem dX12_swapAll_46 : decode cX12_swapAll 46 = .ok (.iload_n 2, 1) := by decide +kernel
theorem dX12_swapAll_47 : decode cX12_swapAll 47 = .ok (.invokevirtual 171, 3) := by decide +kernel
theorem dX12_swapAll_50 : decode cX12_swapAll 50 = .ok (.return_, 1) := by decide +kernel
theorem dX12_comesTold_0 : decode cX12_comesTold 0 = .ok (.aload_n 0, 1) := by decide +kernel
theorem dX12_comesTold_1 : decode cX12_comesTold 1 = .ok (.getfield 50, 3) := by decide +kernel
theorem dX12_comesTold_4 : decode cX12_comesTold 4 = .ok (.iconst 3, 1) := by decide +kernel
theorem dX12_comesTold_5 : decode cX12_comesTold 5 = .ok (.iload_n 1, 1) := by decide +kernel
theorem dX12_comesTold_6 : decode cX12_comesTold 6 = .ok (.imul, 1) := by decide +kernel
theorem dX12_comesTold_7 : decode cX12_comesTold 7 = .ok (.iaload, 1) := by decide +kernel
theorem dX12_comesTold_8 : decode cX12_comesTold 8 = .ok (.istore_n 2, 1) := by decide +kernel
theorem dX12_comesTold_9 : decode cX12_comesTold 9 = .ok (.aload_n 0, 1) := by decide +kernel
theorem dX12_comesTold_10 : decode cX12_comesTold 10 = .ok (.getfield 50, 3) := by decide +kernel
theorem dX12_comesTold_13 : decode cX12_comesTold 13 = .ok (.iconst 3, 1) := by decide +kernel
theorem dX12_comesTold_14 : decode cX12_comesTold 14 = .ok (.iload_n 1, 1) := by decide +kernel
theorem dX12_comesTold_15 : decode cX12_comesTold 15 = .ok (.imul, 1) := by decide +kernel
theorem dX12_comesTold_16 : decode cX12_comesTold 16 = .ok (.iconst 1, 1) := by decide +kernel
theorem dX12_comesTold_17 : decode cX12_comesTold 17 = .ok (.iadd, 1) := by decide +kernel
theorem dX12_comesTold_18 : decode cX12_comesTold 18 = .ok (.iaload, 1) := by decide +kernel
theorem dX12_comesTold_19 : decode cX12_comesTold 19 = .ok (.istore_n 3, 1) := by decide +kernel
theorem dX12_comesTold_20 : decode cX12_comesTold 20 = .ok (.iconst 1, 1) := by decide +kernel
theorem dX12_comesTold_21 : decode cX12_comesTold 21 = .ok (.istore 4, 2) := by decide +kernel
theorem dX12_comesTold_23 : decode cX12_comesTold 23 = .ok (.aload_n 0, 1) := by decide +kernel
theorem dX12_comesTold_24 : decode cX12_comesTold 24 = .ok (.getfield 47, 3) := by decide +kernel
theorem dX12_comesTold_27 : decode cX12_comesTold 27 = .ok (.iload_n 1, 1) := by decide +kernel
theorem dX12_comesTold_28 : decode cX12_comesTold 28 = .ok (.iaload, 1) := by decide +kernel
theorem dX12_comesTold_29 : decode cX12_comesTold 29 = .ok (.lookupswitch 160 #[(98, 75), (99, 51), (109, 68), (116, 124), (120, 82)], 51) := by decide +kernel
theorem dX12_comesTold_80 : decode cX12_comesTold 80 = .ok (.aload_n 0, 1) := by decide +kernel
theorem dX12_comesTold_81 : decode cX12_comesTold 81 = .ok (.iload_n 2, 1) := by decide +kernel
theorem dX12_comesTold_82 : decode cX12_comesTold 82 = .ok (.iload_n 3, 1) := by decide +kernel
theorem dX12_comesTold_83 : decode cX12_comesTold 83 = .ok (.aload_n 0, 1) := by decide +kernel
theorem dX12_comesTold_84 : decode cX12_comesTold 84 = .ok (.getfield 50, 3) := by decide +kernel
theorem dX12_comesTold_87 : decode cX12_comesTold 87 = .ok (.iconst 3, 1) := by decide +kernel
theorem dX12_comesTold_88 : decode cX12_comesTold 88 = .ok (.iload_n 1, 1) := by decide +kernel
theorem dX12_comesTold_89 : decode cX12_comesTold 89 = .ok (.imul, 1) := by decide +kernel
theorem dX12_comesTold_90 : decode cX12_comesTold 90 = .ok (.iconst 2, 1) := by decide +kernel
theorem dX12_comesTold_91 : decode cX12_comesTold 91 = .ok (.iadd, 1) := by decide +kernel
theorem dX12_comesTold_92 : decode cX12_comesTold 92 = .ok (.iaload, 1) := by decide +kernel
theorem dX12_comesTold_93 : decode cX12_comesTold 93 = .ok (.invokevirtual 175, 3) := by decide +kernel
theorem dX12_comesTold_96 : decode cX12_comesTold 96 = .ok (.ireturn, 1) := by decide +kernel
theorem dX12_comesTold_97 : decode cX12_comesTold 97 = .ok (.aload_n 0, 1) := by decide +kernel
theorem dX12_comesTold_98 : decode cX12_comesTold 98 = .ok (.iload_n 2, 1) := by decide +kernel
theorem dX12_comesTold_99 : decode cX12_comesTold 99 = .ok (.iload_n 3, 1) := by decide +kernel
theorem dX12_comesTold_100 : decode cX12_comesTold 100 = .ok (.invokevirtual 179, 3) := by decide +kernel
theorem dX12_comesTold_103 : decode cX12_comesTold 103 = .ok (.ireturn, 1) := by decide +kernel
theorem dX12_comesTold_104 : decode cX12_comesTold 104 = .ok (.aload_n 0, 1) := by decide +kernel
theorem dX12_comesTold_105 : decode cX12_comesTold 105 = .ok (.iload_n 2, 1) := by decide +kernel
theorem dX12_comesTold_106 : decode cX12_comesTold 106 = .ok (.invokevirtual 183, 3) := by decide +kernel
theorem dX12_comesTold_109 : decode cX12_comesTold 109 = .ok (.iconst 1, 1) := by decide +kernel
theorem dX12_comesTold_110 : decode cX12_comesTold 110 = .ok (.ireturn, 1) := by decide +kernel
theorem dX12_comesTold_111 : decode cX12_comesTold 111 = .ok (.aload_n 0, 1) := by decide +kernel
theorem dX12_comesTold_112 : decode cX12_comesTold 112 = .ok (.iload_n 2, 1) := by decide +kernel
theorem dX12_comesTold_113 : decode cX12_comesTold 113 = .ok (.invokevirtual 99, 3) := by decide +kernel
theorem dX12_comesTold_116 : decode cX12_comesTold 116 = .ok (.ifCond .eq 20, 3) := by decide +kernel
theorem dX12_comesTold_119 : decode cX12_comesTold 119 = .ok (.aload_n 0, 1) := by decide +kernel
theorem dX12_comesTold_120 : decode cX12_comesTold 120 = .ok (.iload_n 3, 1) := by decide +kernel
theorem dX12_comesTold_121 : decode cX12_comesTold 121 = .ok (.invokevirtual 99, 3) := by decide +kernel
theorem dX12_comesTold_124 : decode cX12_comesTold 124 = .ok (.ifCond .eq 12, 3) := by decide +kernel
theorem dX12_comesTold_127 : decode cX12_comesTold 127 = .ok (.iload_n 2, 1) := by decide +kernel
theorem dX12_comesTold_128 : decode cX12_comesTold 128 = .ok (.iload_n 3, 1) := by decide +kernel
theorem dX12_comesTold_129 : decode cX12_comesTold 129 = .ok (.if_icmp .eq 7, 3) := by decide +kernel
theorem dX12_comesTold_132 : decode cX12_comesTold 132 = .ok (.iconst 1, 1) := by decide +kernel
theorem dX12_comesTold_133 : decode cX12_comesTold 133 = .ok (.goto 4, 3) := by decide +kernel
theorem dX12_comesTold_136 : decode cX12_comesTold 136 = .ok (.iconst 0, 1) := by decide +kernel
theorem dX12_comesTold_137 : decode cX12_comesTold 137 = .ok (.istore 4, 2) := by decide +kernel
theorem dX12_comesTold_139 : decode cX12_comesTold 139 = .ok (.iload 4, 2) := by decide +kernel
theorem dX12_comesTold_141 : decode cX12_comesTold 141 = .ok (.ifCond .eq 9, 3) := by decide +kernel
theorem dX12_comesTold_144 : decode cX12_comesTold 144 = .ok (.aload_n 0, 1) := by decide +kernel
theorem dX12_comesTold_145 : decode cX12_comesTold 145 = .ok (.iload_n 2, 1) := by decide +kernel
theorem dX12_comesTold_146 : decode cX12_comesTold 146 = .ok (.iload_n 3, 1) := by decide +kernel
theorem dX12_comesTold_147 : decode cX12_comesTold 147 = .ok (.invokevirtual 186, 3) := by decide +kernel
theorem dX12_comesTold_150 : decode cX12_comesTold 150 = .ok (.iload 4, 2) := by decide +kernel
theorem dX12_comesTold_152 : decode cX12_comesTold 152 = .ok (.ireturn, 1) := by decide +kernel
theorem dX12_comesTold_153 : decode cX12_comesTold 153 = .ok (.aload_n 0, 1) := by decide +kernel
theorem dX12_comesTold_154 : decode cX12_comesTold 154 = .ok (.iload_n 2, 1) := by decide +kernel
theorem dX12_comesTold_155 : decode cX12_comesTold 155 = .ok (.invokevirtual 99, 3) := by decide +kernel
theorem dX12_comesTold_158 : decode cX12_comesTold 158 = .ok (.ifCond .eq 13, 3) := by decide +kernel
theorem dX12_comesTold_161 : decode cX12_comesTold 161 = .ok (.iload_n 3, 1) := by decide +kernel
theorem dX12_comesTold_162 : decode cX12_comesTold 162 = .ok (.bipush 20, 2) := by decide +kernel
theorem dX12_comesTold_164 : decode cX12_comesTold 164 = .ok (.if_icmp .gt 7, 3) := by decide +kernel
theorem dX12_comesTold_167 : decode cX12_comesTold 167 = .ok (.iconst 1, 1) := by decide +kernel
theorem dX12_comesTold_168 : decode cX12_comesTold 168 = .ok (.goto 4, 3) := by decide +kernel
theorem dX12_comesTold_171 : decode cX12_comesTold 171 = .ok (.iconst 0, 1) := by decide +kernel
theorem dX12_comesTold_172 : decode cX12_comesTold 172 = .ok (.istore 4, 2) := by decide +kernel
theorem dX12_comesTold_174 : decode cX12_comesTold 174 = .ok (.iload 4, 2) := by decide +kernel
theorem dX12_comesTold_176 : decode cX12_comesTold 176 = .ok (.ifCond .eq 10, 3) := by decide +kernel
theorem dX12_comesTold_179 : decode cX12_comesTold 179 = .ok (.aload_n 0, 1) := by decide +kernel
theorem dX12_comesTold_180 : decode cX12_comesTold 180 = .ok (.getfield 16, 3) := by decide +kernel
theorem dX12_comesTold_183 : decode cX12_comesTold 183 = .ok (.iload_n 2, 1) := by decide +kernel
theorem dX12_comesTold_184 : decode cX12_comesTold 184 = .ok (.iload_n 3, 1) := by decide +kernel
theorem dX12_comesTold_185 : decode cX12_comesTold 185 = .ok (.iastore, 1) := by decide +kernel
theorem dX12_comesTold_186 : decode cX12_comesTold 186 = .ok (.iload 4, 2) := by decide +kernel
theorem dX12_comesTold_188 : decode cX12_comesTold 188 = .ok (.ireturn, 1) := by decide +kernel
theorem dX12_comesTold_189 : decode cX12_comesTold 189 = .ok (.aload_n 0, 1) := by decide +kernel
theorem dX12_comesTold_190 : decode cX12_comesTold 190 = .ok (.iload_n 2, 1) := by decide +kernel
theorem dX12_comesTold_191 : decode cX12_comesTold 191 = .ok (.invokevirtual 99, 3) := by decide +kernel
theorem dX12_comesTold_194 : decode cX12_comesTold 194 = .ok (.ifCond .eq 13, 3) := by decide +kernel
theorem dX12_comesTold_197 : decode cX12_comesTold 197 = .ok (.iload_n 3, 1) := by decide +kernel
theorem dX12_comesTold_198 : decode cX12_comesTold 198 = .ok (.bipush 7, 2) := by decide +kernel
theorem dX12_comesTold_200 : decode cX12_comesTold 200 = .ok (.if_icmp .gt 7, 3) := by decide +kernel
theorem dX12_comesTold_203 : decode cX12_comesTold 203 = .ok (.iconst 1, 1) := by decide +kernel
theorem dX12_comesTold_204 : decode cX12_comesTold 204 = .ok (.goto 4, 3) := by decide +kernel
theorem dX12_comesTold_207 : decode cX12_comesTold 207 = .ok (.iconst 0, 1) := by decide +kernel
theorem dX12_comesTold_208 : decode cX12_comesTold 208 = .ok (.istore 4, 2) := by decide +kernel
theorem dX12_comesTold_210 : decode cX12_comesTold 210 = .ok (.iload 4, 2) := by decide +kernel
theorem dX12_comesTold_212 : decode cX12_comesTold 212 = .ok (.ifCond .eq 10, 3) := by decide +kernel
theorem dX12_comesTold_215 : decode cX12_comesTold 215 = .ok (.aload_n 0, 1) := by decide +kernel
theorem dX12_comesTold_216 : decode cX12_comesTold 216 = .ok (.getfield 19, 3) := by decide +kernel
theorem dX12_comesTold_219 : decode cX12_comesTold 219 = .ok (.iload_n 2, 1) := by decide +kernel
theorem dX12_comesTold_220 : decode cX12_comesTold 220 = .ok (.iload_n 3, 1) := by decide +kernel
theorem dX12_comesTold_221 : decode cX12_comesTold 221 = .ok (.iastore, 1) := by decide +kernel
theorem dX12_comesTold_222 : decode cX12_comesTold 222 = .ok (.iload 4, 2) := by decide +kernel
theorem dX12_comesTold_224 : decode cX12_comesTold 224 = .ok (.ireturn, 1) := by decide +kernel
theorem dX12_bath_0 : decode cX12_bath 0 = .ok (.aload_n 0, 1) := by decide +kernel
theorem dX12_bath_1 : decode cX12_bath 1 = .ok (.iconst 0, 1) := by decide +kernel
theorem dX12_bath_2 : decode cX12_bath 2 = .ok (.putfield 77, 3) := by decide +kernel
theorem dX12_bath_5 : decode cX12_bath 5 = .ok (.aload_n 0, 1) := by decide +kernel
theorem dX12_bath_6 : decode cX12_bath 6 = .ok (.iload_n 1, 1) := by decide +kernel
theorem dX12_bath_7 : decode cX12_bath 7 = .ok (.invokevirtual 189, 3) := by decide +kernel
theorem dX12_bath_10 : decode cX12_bath 10 = .ok (.istore_n 2, 1) := by decide +kernel
theorem dX12_bath_11 : decode cX12_bath 11 = .ok (.iload_n 2, 1) := by decide +kernel
theorem dX12_bath_12 : decode cX12_bath 12 = .ok (.ifCond .ne 17, 3) := by decide +kernel
theorem dX12_bath_15 : decode cX12_bath 15 = .ok (.aload_n 0, 1) := by decide +kernel
theorem dX12_bath_16 : decode cX12_bath 16 = .ok (.getfield 34, 3) := by decide +kernel
theorem dX12_bath_19 : decode cX12_bath 19 = .ok (.iload_n 1, 1) := by decide +kernel
theorem dX12_bath_20 : decode cX12_bath 20 = .ok (.iaload, 1) := by decide +kernel
theorem dX12_bath_21 : decode cX12_bath 21 = .ok (.ifCond .eq 8, 3) := by decide +kernel
theorem dX12_bath_24 : decode cX12_bath 24 = .ok (.bipush (-12), 2) := by decide +kernel
theorem dX12_bath_26 : decode cX12_bath 26 = .ok (.goto 4, 3) := by decide +kernel
theorem dX12_bath_29 : decode cX12_bath 29 = .ok (.iload_n 2, 1) := by decide +kernel
theorem dX12_bath_30 : decode cX12_bath 30 = .ok (.istore_n 2, 1) := by decide +kernel
theorem dX12_bath_31 : decode cX12_bath 31 = .ok (.iload_n 2, 1) := by decide +kernel
theorem dX12_bath_32 : decode cX12_bath 32 = .ok (.ifCond .ge 5, 3) := by decide +kernel
theorem dX12_bath_35 : decode cX12_bath 35 = .ok (.iload_n 2, 1) := by decide +kernel
theorem dX12_bath_36 : decode cX12_bath 36 = .ok (.ireturn, 1) := by decide +kernel
theorem dX12_bath_37 : decode cX12_bath 37 = .ok (.aload_n 0, 1) := by decide +kernel
theorem dX12_bath_38 : decode cX12_bath 38 = .ok (.iload_n 1, 1) := by decide +kernel
theorem dX12_bath_39 : decode cX12_bath 39 = .ok (.putfield 141, 3) := by decide +kernel
theorem dX12_bath_42 : decode cX12_bath 42 = .ok (.aload_n 0, 1) := by decide +kernel
theorem dX12_bath_43 : decode cX12_bath 43 = .ok (.iconst 0, 1) := by decide +kernel
theorem dX12_bath_44 : decode cX12_bath 44 = .ok (.putfield 138, 3) := by decide +kernel
theorem dX12_bath_47 : decode cX12_bath 47 = .ok (.aload_n 0, 1) := by decide +kernel
theorem dX12_bath_48 : decode cX12_bath 48 = .ok (.iconst 0, 1) := by decide +kernel
theorem dX12_bath_49 : decode cX12_bath 49 = .ok (.putfield 144, 3) := by decide +kernel
theorem dX12_bath_52 : decode cX12_bath 52 = .ok (.aload_n 0, 1) := by decide +kernel
theorem dX12_bath_53 : decode cX12_bath 53 = .ok (.iconst 0, 1) := by decide +kernel
theorem dX12_bath_54 : decode cX12_bath 54 = .ok (.putfield 159, 3) := by decide +kernel
theorem dX12_bath_57 : decode cX12_bath 57 = .ok (.aload_n 0, 1) := by decide +kernel
theorem dX12_bath_58 : decode cX12_bath 58 = .ok (.getfield 144, 3) := by decide +kernel
theorem dX12_bath_61 : decode cX12_bath 61 = .ok (.ifCond .ne 30, 3) := by decide +kernel
theorem dX12_bath_64 : decode cX12_bath 64 = .ok (.aload_n 0, 1) := by decide +kernel
theorem dX12_bath_65 : decode cX12_bath 65 = .ok (.getfield 159, 3) := by decide +kernel
theorem dX12_bath_68 : decode cX12_bath 68 = .ok (.ifCond .eq 16, 3) := by decide +kernel
theorem dX12_bath_71 : decode cX12_bath 71 = .ok (.aload_n 0, 1) := by decide +kernel
theorem dX12_bath_72 : decode cX12_bath 72 = .ok (.getfield 138, 3) := by decide +kernel
theorem dX12_bath_75 : decode cX12_bath 75 = .ok (.aload_n 0, 1) := by decide +kernel
theorem dX12_bath_76 : decode cX12_bath 76 = .ok (.getfield 37, 3) := by decide +kernel
theorem dX12_bath_79 : decode cX12_bath 79 = .ok (.iload_n 1, 1) := by decide +kernel
theorem dX12_bath_80 : decode cX12_bath 80 = .ok (.iaload, 1) := by decide +kernel
theorem dX12_bath_81 : decode cX12_bath 81 = .ok (.if_icmp .ge 10, 3) := by decide +kernel
theorem dX12_bath_84 : decode cX12_bath 84 = .ok (.aload_n 0, 1) := by decide +kernel
theorem dX12_bath_85 : decode cX12_bath 85 = .ok (.invokevirtual 192, 3) := by decide +kernel
theorem dX12_bath_88 : decode cX12_bath 88 = .ok (.goto (-31), 3) := by decide +kernel
theorem dX12_bath_91 : decode cX12_bath 91 = .ok (.aload_n 0, 1) := by decide +kernel
theorem dX12_bath_92 : decode cX12_bath 92 = .ok (.getfield 144, 3) := by decide +kernel
theorem dX12_bath_95 : decode cX12_bath 95 = .ok (.ifCond .eq 12, 3) := by decide +kernel
theorem dX12_bath_98 : decode cX12_bath 98 = .ok (.sipush (-1000), 3) := by decide +kernel
theorem dX12_bath_101 : decode cX12_bath 101 = .ok (.aload_n 0, 1) := by decide +kernel
theorem dX12_bath_102 : decode cX12_bath 102 = .ok (.getfield 138, 3) := by decide +kernel
theorem dX12_bath_105 : decode cX12_bath 105 = .ok (.isub, 1) := by decide +kernel
theorem dX12_bath_106 : decode cX12_bath 106 = .ok (.ireturn, 1) := by decide +kernel
theorem dX12_bath_107 : decode cX12_bath 107 = .ok (.aload_n 0, 1) := by decide +kernel
theorem dX12_bath_108 : decode cX12_bath 108 = .ok (.invokevirtual 195, 3) := by decide +kernel
theorem dX12_bath_111 : decode cX12_bath 111 = .ok (.iconst 0, 1) := by decide +kernel
theorem dX12_bath_112 : decode cX12_bath 112 = .ok (.istore_n 3, 1) := by decide +kernel
theorem dX12_bath_113 : decode cX12_bath 113 = .ok (.iload_n 3, 1) := by decide +kernel
theorem dX12_bath_114 : decode cX12_bath 114 = .ok (.aload_n 0, 1) := by decide +kernel
theorem dX12_bath_115 : decode cX12_bath 115 = .ok (.getfield 159, 3) := by decide +kernel
theorem dX12_bath_118 : decode cX12_bath 118 = .ok (.if_icmp .ge 32, 3) := by decide +kernel
theorem dX12_bath_121 : decode cX12_bath 121 = .ok (.aload_n 0, 1) := by decide +kernel
theorem dX12_bath_122 : decode cX12_bath 122 = .ok (.iload_n 3, 1) := by decide +kernel
theorem dX12_bath_123 : decode cX12_bath 123 = .ok (.invokevirtual 198, 3) := by decide +kernel
theorem dX12_bath_126 : decode cX12_bath 126 = .ok (.ifCond .ne 18, 3) := by decide +kernel
theorem dX12_bath_129 : decode cX12_bath 129 = .ok (.aload_n 0, 1) := by decide +kernel
theorem dX12_bath_130 : decode cX12_bath 130 = .ok (.invokevirtual 201, 3) := by decide +kernel
theorem dX12_bath_133 : decode cX12_bath 133 = .ok (.sipush (-2000), 3) := by decide +kernel
theorem dX12_bath_136 : decode cX12_bath 136 = .ok (.aload_n 0, 1) := by decide +kernel
theorem dX12_bath_137 : decode cX12_bath 137 = .ok (.getfield 44, 3) := by decide +kernel
theorem dX12_bath_140 : decode cX12_bath 140 = .ok (.iload_n 3, 1) := by decide +kernel
theorem dX12_bath_141 : decode cX12_bath 141 = .ok (.iaload, 1) := by decide +kernel
theorem dX12_bath_142 : decode cX12_bath 142 = .ok (.isub, 1) := by decide +kernel
theorem dX12_bath_143 : decode cX12_bath 143 = .ok (.ireturn, 1) := by decide +kernel
theorem dX12_bath_144 : decode cX12_bath 144 = .ok (.iinc 3 1, 3) := by decide +kernel
theorem dX12_bath_147 : decode cX12_bath 147 = .ok (.goto (-34), 3) := by decide +kernel
theorem dX12_bath_150 : decode cX12_bath 150 = .ok (.aload_n 0, 1) := by decide +kernel
theorem dX12_bath_151 : decode cX12_bath 151 = .ok (.getfield 159, 3) := by decide +kernel
theorem dX12_bath_154 : decode cX12_bath 154 = .ok (.ireturn, 1) := by decide +kernel
theorem dX12_carry_0 : decode cX12_carry 0 = .ok (.aload_n 0, 1) := by decide +kernel
theorem dX12_carry_1 : decode cX12_carry 1 = .ok (.getfield 204, 3) := by decide +kernel
theorem dX12_carry_4 : decode cX12_carry 4 = .ok (.ifCond .eq 13, 3) := by decide +kernel
theorem dX12_carry_7 : decode cX12_carry 7 = .ok (.aload_n 0, 1) := by decide +kernel
theorem dX12_carry_8 : decode cX12_carry 8 = .ok (.getfield 207, 3) := by decide +kernel
theorem dX12_carry_11 : decode cX12_carry 11 = .ok (.aload_n 0, 1) := by decide +kernel
theorem dX12_carry_12 : decode cX12_carry 12 = .ok (.getfield 210, 3) := by decide +kernel
theorem dX12_carry_15 : decode cX12_carry 15 = .ok (.iload_n 1, 1) := by decide +kernel
theorem dX12_carry_16 : decode cX12_carry 16 = .ok (.iastore, 1) := by decide +kernel
theorem dX12_carry_17 : decode cX12_carry 17 = .ok (.aload_n 0, 1) := by decide +kernel
theorem dX12_carry_18 : decode cX12_carry 18 = .ok (.dup, 1) := by decide +kernel
theorem dX12_carry_19 : decode cX12_carry 19 = .ok (.getfield 210, 3) := by decide +kernel
theorem dX12_carry_22 : decode cX12_carry 22 = .ok (.iconst 1, 1) := by decide +kernel
theorem dX12_carry_23 : decode cX12_carry 23 = .ok (.iadd, 1) := by decide +kernel
theorem dX12_carry_24 : decode cX12_carry 24 = .ok (.putfield 210, 3) := by decide +kernel
theorem dX12_carry_27 : decode cX12_carry 27 = .ok (.aload_n 0, 1) := by decide +kernel
theorem dX12_carry_28 : decode cX12_carry 28 = .ok (.getfield 207, 3) := by decide +kernel
theorem dX12_carry_31 : decode cX12_carry 31 = .ok (.aload_n 0, 1) := by decide +kernel
theorem dX12_carry_32 : decode cX12_carry 32 = .ok (.getfield 210, 3) := by decide +kernel
theorem dX12_carry_35 : decode cX12_carry 35 = .ok (.iconst 1, 1) := by decide +kernel
theorem dX12_carry_36 : decode cX12_carry 36 = .ok (.isub, 1) := by decide +kernel
theorem dX12_carry_37 : decode cX12_carry 37 = .ok (.iaload, 1) := by decide +kernel
theorem dX12_carry_38 : decode cX12_carry 38 = .ok (.ireturn, 1) := by decide +kernel
theorem dX12_carryAll_0 : decode cX12_carryAll 0 = .ok (.aload_n 0, 1) := by decide +kernel
theorem dX12_carryAll_1 : decode cX12_carryAll 1 = .ok (.aload_n 1, 1) := by decide +kernel
theorem dX12_carryAll_2 : decode cX12_carryAll 2 = .ok (.putfield 207, 3) := by decide +kernel
theorem dX12_carryAll_5 : decode cX12_carryAll 5 = .ok (.aload_n 0, 1) := by decide +kernel
theorem dX12_carryAll_6 : decode cX12_carryAll 6 = .ok (.iload_n 2, 1) := by decide +kernel
theorem dX12_carryAll_7 : decode cX12_carryAll 7 = .ok (.putfield 204, 3) := by decide +kernel
theorem dX12_carryAll_10 : decode cX12_carryAll 10 = .ok (.aload_n 0, 1) := by decide +kernel
theorem dX12_carryAll_11 : decode cX12_carryAll 11 = .ok (.iconst 0, 1) := by decide +kernel
theorem dX12_carryAll_12 : decode cX12_carryAll 12 = .ok (.putfield 210, 3) := by decide +kernel
theorem dX12_carryAll_15 : decode cX12_carryAll 15 = .ok (.aload_n 0, 1) := by decide +kernel
theorem dX12_carryAll_16 : decode cX12_carryAll 16 = .ok (.aload_n 0, 1) := by decide +kernel
theorem dX12_carryAll_17 : decode cX12_carryAll 17 = .ok (.aload_n 0, 1) := by decide +kernel
theorem dX12_carryAll_18 : decode cX12_carryAll 18 = .ok (.getfield 81, 3) := by decide +kernel
theorem dX12_carryAll_21 : decode cX12_carryAll 21 = .ok (.invokevirtual 213, 3) := by decide +kernel
theorem dX12_carryAll_24 : decode cX12_carryAll 24 = .ok (.putfield 81, 3) := by decide +kernel
theorem dX12_carryAll_27 : decode cX12_carryAll 27 = .ok (.aload_n 0, 1) := by decide +kernel
theorem dX12_carryAll_28 : decode cX12_carryAll 28 = .ok (.aload_n 0, 1) := by decide +kernel
theorem dX12_carryAll_29 : decode cX12_carryAll 29 = .ok (.aload_n 0, 1) := by decide +kernel
theorem dX12_carryAll_30 : decode cX12_carryAll 30 = .ok (.getfield 135, 3) := by decide +kernel
theorem dX12_carryAll_33 : decode cX12_carryAll 33 = .ok (.invokevirtual 213, 3) := by decide +kernel
theorem dX12_carryAll_36 : decode cX12_carryAll 36 = .ok (.putfield 135, 3) := by decide +kernel
theorem dX12_carryAll_39 : decode cX12_carryAll 39 = .ok (.iconst 0, 1) := by decide +kernel
theorem dX12_carryAll_40 : decode cX12_carryAll 40 = .ok (.istore_n 3, 1) := by decide +kernel
theorem dX12_carryAll_41 : decode cX12_carryAll 41 = .ok (.iload_n 3, 1) := by decide +kernel
theorem dX12_carryAll_42 : decode cX12_carryAll 42 = .ok (.bipush 6, 2) := by decide +kernel
theorem dX12_carryAll_44 : decode cX12_carryAll 44 = .ok (.if_icmp .ge 89, 3) := by decide +kernel
theorem dX12_carryAll_47 : decode cX12_carryAll 47 = .ok (.aload_n 0, 1) := by decide +kernel
theorem dX12_carryAll_48 : decode cX12_carryAll 48 = .ok (.getfield 7, 3) := by decide +kernel
theorem dX12_carryAll_51 : decode cX12_carryAll 51 = .ok (.iload_n 3, 1) := by decide +kernel
theorem dX12_carryAll_52 : decode cX12_carryAll 52 = .ok (.aload_n 0, 1) := by decide +kernel
theorem dX12_carryAll_53 : decode cX12_carryAll 53 = .ok (.aload_n 0, 1) := by decide +kernel
theorem dX12_carryAll_54 : decode cX12_carryAll 54 = .ok (.getfield 7, 3) := by decide +kernel
theorem dX12_carryAll_57 : decode cX12_carryAll 57 = .ok (.iload_n 3, 1) := by decide +kernel
theorem dX12_carryAll_58 : decode cX12_carryAll 58 = .ok (.iaload, 1) := by decide +kernel
theorem dX12_carryAll_59 : decode cX12_carryAll 59 = .ok (.invokevirtual 213, 3) := by decide +kernel
theorem dX12_carryAll_62 : decode cX12_carryAll 62 = .ok (.iastore, 1) := by decide +kernel
theorem dX12_carryAll_63 : decode cX12_carryAll 63 = .ok (.aload_n 0, 1) := by decide +kernel
theorem dX12_carryAll_64 : decode cX12_carryAll 64 = .ok (.getfield 13, 3) := by decide +kernel
theorem dX12_carryAll_67 : decode cX12_carryAll 67 = .ok (.iload_n 3, 1) := by decide +kernel
theorem dX12_carryAll_68 : decode cX12_carryAll 68 = .ok (.aload_n 0, 1) := by decide +kernel
theorem dX12_carryAll_69 : decode cX12_carryAll 69 = .ok (.aload_n 0, 1) := by decide +kernel
theorem dX12_carryAll_70 : decode cX12_carryAll 70 = .ok (.getfield 13, 3) := by decide +kernel
theorem dX12_carryAll_73 : decode cX12_carryAll 73 = .ok (.iload_n 3, 1) := by decide +kernel
theorem dX12_carryAll_74 : decode cX12_carryAll 74 = .ok (.iaload, 1) := by decide +kernel
theorem dX12_carryAll_75 : decode cX12_carryAll 75 = .ok (.invokevirtual 213, 3) := by decide +kernel
theorem dX12_carryAll_78 : decode cX12_carryAll 78 = .ok (.iastore, 1) := by decide +kernel
theorem dX12_carryAll_79 : decode cX12_carryAll 79 = .ok (.aload_n 0, 1) := by decide +kernel
theorem dX12_carryAll_80 : decode cX12_carryAll 80 = .ok (.getfield 16, 3) := by decide +kernel
theorem dX12_carryAll_83 : decode cX12_carryAll 83 = .ok (.iload_n 3, 1) := by decide +kernel
theorem dX12_carryAll_84 : decode cX12_carryAll 84 = .ok (.aload_n 0, 1) := by decide +kernel
theorem dX12_carryAll_85 : decode cX12_carryAll 85 = .ok (.aload_n 0, 1) := by decide +kernel
theorem dX12_carryAll_86 : decode cX12_carryAll 86 = .ok (.getfield 16, 3) := by decide +kernel
theorem dX12_carryAll_89 : decode cX12_carryAll 89 = .ok (.iload_n 3, 1) := by decide +kernel
theorem dX12_carryAll_90 : decode cX12_carryAll 90 = .ok (.iaload, 1) := by decide +kernel
theorem dX12_carryAll_91 : decode cX12_carryAll 91 = .ok (.invokevirtual 213, 3) := by decide +kernel
theorem dX12_carryAll_94 : decode cX12_carryAll 94 = .ok (.iastore, 1) := by decide +kernel
theorem dX12_carryAll_95 : decode cX12_carryAll 95 = .ok (.aload_n 0, 1) := by decide +kernel
theorem dX12_carryAll_96 : decode cX12_carryAll 96 = .ok (.getfield 19, 3) := by decide +kernel
theorem dX12_carryAll_99 : decode cX12_carryAll 99 = .ok (.iload_n 3, 1) := by decide +kernel
theorem dX12_carryAll_100 : decode cX12_carryAll 100 = .ok (.aload_n 0, 1) := by decide +kernel
theorem dX12_carryAll_101 : decode cX12_carryAll 101 = .ok (.aload_n 0, 1) := by decide +kernel
theorem dX12_carryAll_102 : decode cX12_carryAll 102 = .ok (.getfield 19, 3) := by decide +kernel
theorem dX12_carryAll_105 : decode cX12_carryAll 105 = .ok (.iload_n 3, 1) := by decide +kernel
theorem dX12_carryAll_106 : decode cX12_carryAll 106 = .ok (.iaload, 1) := by decide +kernel
theorem dX12_carryAll_107 : decode cX12_carryAll 107 = .ok (.invokevirtual 213, 3) := by decide +kernel
theorem dX12_carryAll_110 : decode cX12_carryAll 110 = .ok (.iastore, 1) := by decide +kernel
theorem dX12_carryAll_111 : decode cX12_carryAll 111 = .ok (.aload_n 0, 1) := by decide +kernel
theorem dX12_carryAll_112 : decode cX12_carryAll 112 = .ok (.getfield 22, 3) := by decide +kernel
theorem dX12_carryAll_115 : decode cX12_carryAll 115 = .ok (.iload_n 3, 1) := by decide +kernel
theorem dX12_carryAll_116 : decode cX12_carryAll 116 = .ok (.aload_n 0, 1) := by decide +kernel
theorem dX12_carryAll_117 : decode cX12_carryAll 117 = .ok (.aload_n 0, 1) := by decide +kernel
theorem dX12_carryAll_118 : decode cX12_carryAll 118 = .ok (.getfield 22, 3) := by decide +kernel
theorem dX12_carryAll_121 : decode cX12_carryAll 121 = .ok (.iload_n 3, 1) := by decide +kernel
theorem dX12_carryAll_122 : decode cX12_carryAll 122 = .ok (.iaload, 1) := by decide +kernel
theorem dX12_carryAll_123 : decode cX12_carryAll 123 = .ok (.invokevirtual 213, 3) := by decide +kernel
theorem dX12_carryAll_126 : decode cX12_carryAll 126 = .ok (.iastore, 1) := by decide +kernel
theorem dX12_carryAll_127 : decode cX12_carryAll 127 = .ok (.iinc 3 1, 3) := by decide +kernel
theorem dX12_carryAll_130 : decode cX12_carryAll 130 = .ok (.goto (-89), 3) := by decide +kernel
theorem dX12_carryAll_133 : decode cX12_carryAll 133 = .ok (.return_, 1) := by decide +kernel
theorem dX12_open_0 : decode cX12_open 0 = .ok (.aload_n 0, 1) := by decide +kernel
theorem dX12_open_1 : decode cX12_open 1 = .ok (.aload_n 0, 1) := by decide +kernel
theorem dX12_open_2 : decode cX12_open 2 = .ok (.getfield 53, 3) := by decide +kernel
theorem dX12_open_5 : decode cX12_open 5 = .ok (.iconst 1, 1) := by decide +kernel
theorem dX12_open_6 : decode cX12_open 6 = .ok (.invokevirtual 216, 3) := by decide +kernel
theorem dX12_open_9 : decode cX12_open 9 = .ok (.return_, 1) := by decide +kernel
theorem dX12_close_0 : decode cX12_close 0 = .ok (.aload_n 0, 1) := by decide +kernel
theorem dX12_close_1 : decode cX12_close 1 = .ok (.aload_n 0, 1) := by decide +kernel
theorem dX12_close_2 : decode cX12_close 2 = .ok (.getfield 53, 3) := by decide +kernel
theorem dX12_close_5 : decode cX12_close 5 = .ok (.iconst 0, 1) := by decide +kernel
theorem dX12_close_6 : decode cX12_close 6 = .ok (.invokevirtual 216, 3) := by decide +kernel
theorem dX12_close_9 : decode cX12_close 9 = .ok (.return_, 1) := by decide +kernel
theorem dX12_image_0 : decode cX12_image 0 = .ok (.aload_n 0, 1) := by decide +kernel
theorem dX12_image_1 : decode cX12_image 1 = .ok (.iconst 0, 1) := by decide +kernel
theorem dX12_image_2 : decode cX12_image 2 = .ok (.putfield 77, 3) := by decide +kernel
theorem dX12_image_5 : decode cX12_image 5 = .ok (.aload_n 0, 1) := by decide +kernel
theorem dX12_image_6 : decode cX12_image 6 = .ok (.iconst 1, 1) := by decide +kernel
theorem dX12_image_7 : decode cX12_image 7 = .ok (.putfield 220, 3) := by decide +kernel
theorem dX12_image_10 : decode cX12_image 10 = .ok (.aload_n 0, 1) := by decide +kernel
theorem dX12_image_11 : decode cX12_image 11 = .ok (.aload_n 0, 1) := by decide +kernel
theorem dX12_image_12 : decode cX12_image 12 = .ok (.getfield 56, 3) := by decide +kernel
theorem dX12_image_15 : decode cX12_image 15 = .ok (.iconst 1, 1) := by decide +kernel
theorem dX12_image_16 : decode cX12_image 16 = .ok (.invokevirtual 216, 3) := by decide +kernel
theorem dX12_image_19 : decode cX12_image 19 = .ok (.aload_n 0, 1) := by decide +kernel
theorem dX12_image_20 : decode cX12_image 20 = .ok (.getfield 135, 3) := by decide +kernel
theorem dX12_image_23 : decode cX12_image 23 = .ok (.ireturn, 1) := by decide +kernel
theorem dX12_restore_0 : decode cX12_restore 0 = .ok (.aload_n 0, 1) := by decide +kernel
theorem dX12_restore_1 : decode cX12_restore 1 = .ok (.iconst 0, 1) := by decide +kernel
theorem dX12_restore_2 : decode cX12_restore 2 = .ok (.putfield 77, 3) := by decide +kernel
theorem dX12_restore_5 : decode cX12_restore 5 = .ok (.aload_n 0, 1) := by decide +kernel
theorem dX12_restore_6 : decode cX12_restore 6 = .ok (.getfield 220, 3) := by decide +kernel
theorem dX12_restore_9 : decode cX12_restore 9 = .ok (.ifCond .ne 6, 3) := by decide +kernel
theorem dX12_restore_12 : decode cX12_restore 12 = .ok (.bipush (-3), 2) := by decide +kernel
theorem dX12_restore_14 : decode cX12_restore 14 = .ok (.ireturn, 1) := by decide +kernel
theorem dX12_restore_15 : decode cX12_restore 15 = .ok (.aload_n 0, 1) := by decide +kernel
theorem dX12_restore_16 : decode cX12_restore 16 = .ok (.aload_n 0, 1) := by decide +kernel
theorem dX12_restore_17 : decode cX12_restore 17 = .ok (.getfield 56, 3) := by decide +kernel
theorem dX12_restore_20 : decode cX12_restore 20 = .ok (.iconst 0, 1) := by decide +kernel
theorem dX12_restore_21 : decode cX12_restore 21 = .ok (.invokevirtual 216, 3) := by decide +kernel
theorem dX12_restore_24 : decode cX12_restore 24 = .ok (.aload_n 0, 1) := by decide +kernel
theorem dX12_restore_25 : decode cX12_restore 25 = .ok (.getfield 135, 3) := by decide +kernel
theorem dX12_restore_28 : decode cX12_restore 28 = .ok (.ireturn, 1) := by decide +kernel
theorem dX12_child_0 : decode cX12_child 0 = .ok (.aload_n 0, 1) := by decide +kernel
theorem dX12_child_1 : decode cX12_child 1 = .ok (.iconst 0, 1) := by decide +kernel
theorem dX12_child_2 : decode cX12_child 2 = .ok (.putfield 77, 3) := by decide +kernel
theorem dX12_child_5 : decode cX12_child 5 = .ok (.aload_n 0, 1) := by decide +kernel
theorem dX12_child_6 : decode cX12_child 6 = .ok (.iload_n 1, 1) := by decide +kernel
theorem dX12_child_7 : decode cX12_child 7 = .ok (.invokevirtual 99, 3) := by decide +kernel
theorem dX12_child_10 : decode cX12_child 10 = .ok (.ifCond .ne 5, 3) := by decide +kernel
theorem dX12_child_13 : decode cX12_child 13 = .ok (.iconst (-1), 1) := by decide +kernel
theorem dX12_child_14 : decode cX12_child 14 = .ok (.ireturn, 1) := by decide +kernel
theorem dX12_child_15 : decode cX12_child 15 = .ok (.iload_n 2, 1) := by decide +kernel
theorem dX12_child_16 : decode cX12_child 16 = .ok (.tableswitch 136 0 9 #[56, 63, 70, 77, 84, 91, 97, 118, 124, 130], 56) := by decide +kernel
theorem dX12_child_72 : decode cX12_child 72 = .ok (.aload_n 0, 1) := by decide +kernel
theorem dX12_child_73 : decode cX12_child 73 = .ok (.getfield 7, 3) := by decide +kernel
theorem dX12_child_76 : decode cX12_child 76 = .ok (.iload_n 1, 1) := by decide +kernel
theorem dX12_child_77 : decode cX12_child 77 = .ok (.iaload, 1) := by decide +kernel
theorem dX12_child_78 : decode cX12_child 78 = .ok (.ireturn, 1) := by decide +kernel
theorem dX12_child_79 : decode cX12_child 79 = .ok (.aload_n 0, 1) := by decide +kernel
theorem dX12_child_80 : decode cX12_child 80 = .ok (.getfield 13, 3) := by decide +kernel
theorem dX12_child_83 : decode cX12_child 83 = .ok (.iload_n 1, 1) := by decide +kernel
theorem dX12_child_84 : decode cX12_child 84 = .ok (.iaload, 1) := by decide +kernel
theorem dX12_child_85 : decode cX12_child 85 = .ok (.ireturn, 1) := by decide +kernel
theorem dX12_child_86 : decode cX12_child 86 = .ok (.aload_n 0, 1) := by decide +kernel
theorem dX12_child_87 : decode cX12_child 87 = .ok (.getfield 16, 3) := by decide +kernel
theorem dX12_child_90 : decode cX12_child 90 = .ok (.iload_n 1, 1) := by decide +kernel
theorem dX12_child_91 : decode cX12_child 91 = .ok (.iaload, 1) := by decide +kernel
theorem dX12_child_92 : decode cX12_child 92 = .ok (.ireturn, 1) := by decide +kernel
theorem dX12_child_93 : decode cX12_child 93 = .ok (.aload_n 0, 1) := by decide +kernel
theorem dX12_child_94 : decode cX12_child 94 = .ok (.getfield 19, 3) := by decide +kernel
theorem dX12_child_97 : decode cX12_child 97 = .ok (.iload_n 1, 1) := by decide +kernel
theorem dX12_child_98 : decode cX12_child 98 = .ok (.iaload, 1) := by decide +kernel
theorem dX12_child_99 : decode cX12_child 99 = .ok (.ireturn, 1) := by decide +kernel
theorem dX12_child_100 : decode cX12_child 100 = .ok (.aload_n 0, 1) := by decide +kernel
theorem dX12_child_101 : decode cX12_child 101 = .ok (.getfield 22, 3) := by decide +kernel
theorem dX12_child_104 : decode cX12_child 104 = .ok (.iload_n 1, 1) := by decide +kernel
theorem dX12_child_105 : decode cX12_child 105 = .ok (.iaload, 1) := by decide +kernel
theorem dX12_child_106 : decode cX12_child 106 = .ok (.ireturn, 1) := by decide +kernel
theorem dX12_child_107 : decode cX12_child 107 = .ok (.aload_n 0, 1) := by decide +kernel
theorem dX12_child_108 : decode cX12_child 108 = .ok (.iload_n 1, 1) := by decide +kernel
theorem dX12_child_109 : decode cX12_child 109 = .ok (.invokevirtual 122, 3) := by decide +kernel
theorem dX12_child_112 : decode cX12_child 112 = .ok (.ireturn, 1) := by decide +kernel
theorem dX12_child_113 : decode cX12_child 113 = .ok (.aload_n 0, 1) := by decide +kernel
theorem dX12_child_114 : decode cX12_child 114 = .ok (.getfield 19, 3) := by decide +kernel
theorem dX12_child_117 : decode cX12_child 117 = .ok (.iload_n 1, 1) := by decide +kernel
theorem dX12_child_118 : decode cX12_child 118 = .ok (.iaload, 1) := by decide +kernel
theorem dX12_child_119 : decode cX12_child 119 = .ok (.bipush 7, 2) := by decide +kernel
theorem dX12_child_121 : decode cX12_child 121 = .ok (.if_icmp .ne 7, 3) := by decide +kernel
theorem dX12_child_124 : decode cX12_child 124 = .ok (.iconst 0, 1) := by decide +kernel
theorem dX12_child_125 : decode cX12_child 125 = .ok (.goto 8, 3) := by decide +kernel
theorem dX12_child_128 : decode cX12_child 128 = .ok (.aload_n 0, 1) := by decide +kernel
theorem dX12_child_129 : decode cX12_child 129 = .ok (.iload_n 1, 1) := by decide +kernel
theorem dX12_child_130 : decode cX12_child 130 = .ok (.invokevirtual 95, 3) := by decide +kernel
theorem dX12_child_133 : decode cX12_child 133 = .ok (.ireturn, 1) := by decide +kernel
theorem dX12_child_134 : decode cX12_child 134 = .ok (.aload_n 0, 1) := by decide +kernel
theorem dX12_child_135 : decode cX12_child 135 = .ok (.iload_n 1, 1) := by decide +kernel
theorem dX12_child_136 : decode cX12_child 136 = .ok (.invokevirtual 116, 3) := by decide +kernel
theorem dX12_child_139 : decode cX12_child 139 = .ok (.ireturn, 1) := by decide +kernel
theorem dX12_child_140 : decode cX12_child 140 = .ok (.aload_n 0, 1) := by decide +kernel
theorem dX12_child_141 : decode cX12_child 141 = .ok (.iload_n 1, 1) := by decide +kernel
theorem dX12_child_142 : decode cX12_child 142 = .ok (.invokevirtual 119, 3) := by decide +kernel
theorem dX12_child_145 : decode cX12_child 145 = .ok (.ireturn, 1) := by decide +kernel
theorem dX12_child_146 : decode cX12_child 146 = .ok (.aload_n 0, 1) := by decide +kernel
theorem dX12_child_147 : decode cX12_child 147 = .ok (.iload_n 1, 1) := by decide +kernel
theorem dX12_child_148 : decode cX12_child 148 = .ok (.invokevirtual 106, 3) := by decide +kernel
theorem dX12_child_151 : decode cX12_child 151 = .ok (.ireturn, 1) := by decide +kernel
theorem dX12_child_152 : decode cX12_child 152 = .ok (.iconst (-1), 1) := by decide +kernel
theorem dX12_child_153 : decode cX12_child 153 = .ok (.ireturn, 1) := by decide +kernel
theorem dX12_wrongKept_0 : decode cX12_wrongKept 0 = .ok (.iload_n 1, 1) := by decide +kernel
theorem dX12_wrongKept_1 : decode cX12_wrongKept 1 = .ok (.i2l, 1) := by decide +kernel
theorem dX12_wrongKept_2 : decode cX12_wrongKept 2 = .ok (.lconst 0, 1) := by decide +kernel
theorem dX12_wrongKept_3 : decode cX12_wrongKept 3 = .ok (.ldc2_w 223, 3) := by decide +kernel
theorem dX12_wrongKept_6 : decode cX12_wrongKept 6 = .ok (.invokestatic 84, 3) := by decide +kernel
theorem dX12_wrongKept_9 : decode cX12_wrongKept 9 = .ok (.ifCond .ne 7, 3) := by decide +kernel
theorem dX12_wrongKept_12 : decode cX12_wrongKept 12 = .ok (.iconst (-1), 1) := by decide +kernel
theorem dX12_wrongKept_13 : decode cX12_wrongKept 13 = .ok (.goto 33, 3) := by decide +kernel
theorem dX12_wrongKept_16 : decode cX12_wrongKept 16 = .ok (.aload_n 0, 1) := by decide +kernel
theorem dX12_wrongKept_17 : decode cX12_wrongKept 17 = .ok (.getfield 25, 3) := by decide +kernel
theorem dX12_wrongKept_20 : decode cX12_wrongKept 20 = .ok (.iload_n 1, 1) := by decide +kernel
theorem dX12_wrongKept_21 : decode cX12_wrongKept 21 = .ok (.iaload, 1) := by decide +kernel
theorem dX12_wrongKept_22 : decode cX12_wrongKept 22 = .ok (.ifCond .ne 8, 3) := by decide +kernel
theorem dX12_wrongKept_25 : decode cX12_wrongKept 25 = .ok (.bipush (-11), 2) := by decide +kernel
theorem dX12_wrongKept_27 : decode cX12_wrongKept 27 = .ok (.goto 19, 3) := by decide +kernel
theorem dX12_wrongKept_30 : decode cX12_wrongKept 30 = .ok (.aload_n 0, 1) := by decide +kernel
theorem dX12_wrongKept_31 : decode cX12_wrongKept 31 = .ok (.getfield 25, 3) := by decide +kernel
theorem dX12_wrongKept_34 : decode cX12_wrongKept 34 = .ok (.iload_n 1, 1) := by decide +kernel
theorem dX12_wrongKept_35 : decode cX12_wrongKept 35 = .ok (.iaload, 1) := by decide +kernel
theorem dX12_wrongKept_36 : decode cX12_wrongKept 36 = .ok (.iconst 1, 1) := by decide +kernel
theorem dX12_wrongKept_37 : decode cX12_wrongKept 37 = .ok (.if_icmp .eq 8, 3) := by decide +kernel
theorem dX12_wrongKept_40 : decode cX12_wrongKept 40 = .ok (.bipush (-12), 2) := by decide +kernel
theorem dX12_wrongKept_42 : decode cX12_wrongKept 42 = .ok (.goto 4, 3) := by decide +kernel
theorem dX12_wrongKept_45 : decode cX12_wrongKept 45 = .ok (.iconst 0, 1) := by decide +kernel
theorem dX12_wrongKept_46 : decode cX12_wrongKept 46 = .ok (.ireturn, 1) := by decide +kernel
theorem dX12_comes_0 : decode cX12_comes 0 = .ok (.aload_n 0, 1) := by decide +kernel
theorem dX12_comes_1 : decode cX12_comes 1 = .ok (.iconst 0, 1) := by decide +kernel
theorem dX12_comes_2 : decode cX12_comes 2 = .ok (.putfield 77, 3) := by decide +kernel
theorem dX12_comes_5 : decode cX12_comes 5 = .ok (.iload_n 2, 1) := by decide +kernel
theorem dX12_comes_6 : decode cX12_comes 6 = .ok (.i2l, 1) := by decide +kernel
theorem dX12_comes_7 : decode cX12_comes 7 = .ok (.lconst 0, 1) := by decide +kernel
theorem dX12_comes_8 : decode cX12_comes 8 = .ok (.ldc2_w 225, 3) := by decide +kernel
theorem dX12_comes_11 : decode cX12_comes 11 = .ok (.invokestatic 84, 3) := by decide +kernel
theorem dX12_comes_14 : decode cX12_comes 14 = .ok (.ifCond .eq 11, 3) := by decide +kernel
theorem dX12_comes_17 : decode cX12_comes 17 = .ok (.aload_n 0, 1) := by decide +kernel
theorem dX12_comes_18 : decode cX12_comes 18 = .ok (.iload_n 1, 1) := by decide +kernel
theorem dX12_comes_19 : decode cX12_comes 19 = .ok (.invokevirtual 227, 3) := by decide +kernel
theorem dX12_comes_22 : decode cX12_comes 22 = .ok (.goto 4, 3) := by decide +kernel
theorem dX12_comes_25 : decode cX12_comes 25 = .ok (.iconst (-1), 1) := by decide +kernel
theorem dX12_comes_26 : decode cX12_comes 26 = .ok (.istore_n 3, 1) := by decide +kernel
theorem dX12_comes_27 : decode cX12_comes 27 = .ok (.iload_n 3, 1) := by decide +kernel
theorem dX12_comes_28 : decode cX12_comes 28 = .ok (.ifCond .ge 5, 3) := by decide +kernel
theorem dX12_comes_31 : decode cX12_comes 31 = .ok (.iload_n 3, 1) := by decide +kernel
theorem dX12_comes_32 : decode cX12_comes 32 = .ok (.ireturn, 1) := by decide +kernel
theorem dX12_comes_33 : decode cX12_comes 33 = .ok (.aload_n 0, 1) := by decide +kernel
theorem dX12_comes_34 : decode cX12_comes 34 = .ok (.aload_n 0, 1) := by decide +kernel
theorem dX12_comes_35 : decode cX12_comes 35 = .ok (.getfield 28, 3) := by decide +kernel
theorem dX12_comes_38 : decode cX12_comes 38 = .ok (.iload_n 1, 1) := by decide +kernel
theorem dX12_comes_39 : decode cX12_comes 39 = .ok (.iaload, 1) := by decide +kernel
theorem dX12_comes_40 : decode cX12_comes 40 = .ok (.aload_n 0, 1) := by decide +kernel
theorem dX12_comes_41 : decode cX12_comes 41 = .ok (.getfield 31, 3) := by decide +kernel
theorem dX12_comes_44 : decode cX12_comes 44 = .ok (.iload_n 1, 1) := by decide +kernel
theorem dX12_comes_45 : decode cX12_comes 45 = .ok (.iaload, 1) := by decide +kernel
theorem dX12_comes_46 : decode cX12_comes 46 = .ok (.iload_n 2, 1) := by decide +kernel
theorem dX12_comes_47 : decode cX12_comes 47 = .ok (.invokevirtual 175, 3) := by decide +kernel
theorem dX12_comes_50 : decode cX12_comes 50 = .ok (.ifCond .eq 12, 3) := by decide +kernel
theorem dX12_comes_53 : decode cX12_comes 53 = .ok (.aload_n 0, 1) := by decide +kernel
theorem dX12_comes_54 : decode cX12_comes 54 = .ok (.getfield 81, 3) := by decide +kernel
theorem dX12_comes_57 : decode cX12_comes 57 = .ok (.iconst 1, 1) := by decide +kernel
theorem dX12_comes_58 : decode cX12_comes 58 = .ok (.isub, 1) := by decide +kernel
theorem dX12_comes_59 : decode cX12_comes 59 = .ok (.goto 5, 3) := by decide +kernel
theorem dX12_comes_62 : decode cX12_comes 62 = .ok (.bipush (-2), 2) := by decide +kernel
theorem dX12_comes_64 : decode cX12_comes 64 = .ok (.ireturn, 1) := by decide +kernel
theorem dX12_feels_0 : decode cX12_feels 0 = .ok (.aload_n 0, 1) := by decide +kernel
theorem dX12_feels_1 : decode cX12_feels 1 = .ok (.iconst 0, 1) := by decide +kernel
theorem dX12_feels_2 : decode cX12_feels 2 = .ok (.putfield 77, 3) := by decide +kernel
theorem dX12_feels_5 : decode cX12_feels 5 = .ok (.aload_n 0, 1) := by decide +kernel
theorem dX12_feels_6 : decode cX12_feels 6 = .ok (.iload_n 1, 1) := by decide +kernel
theorem dX12_feels_7 : decode cX12_feels 7 = .ok (.invokevirtual 99, 3) := by decide +kernel
theorem dX12_feels_10 : decode cX12_feels 10 = .ok (.ifCond .eq 35, 3) := by decide +kernel
theorem dX12_feels_13 : decode cX12_feels 13 = .ok (.iload_n 2, 1) := by decide +kernel
theorem dX12_feels_14 : decode cX12_feels 14 = .ok (.i2l, 1) := by decide +kernel
theorem dX12_feels_15 : decode cX12_feels 15 = .ok (.lconst 0, 1) := by decide +kernel
theorem dX12_feels_16 : decode cX12_feels 16 = .ok (.lconst 1, 1) := by decide +kernel
theorem dX12_feels_17 : decode cX12_feels 17 = .ok (.invokestatic 84, 3) := by decide +kernel
theorem dX12_feels_20 : decode cX12_feels 20 = .ok (.ifCond .eq 25, 3) := by decide +kernel
theorem dX12_feels_23 : decode cX12_feels 23 = .ok (.iload_n 3, 1) := by decide +kernel
theorem dX12_feels_24 : decode cX12_feels 24 = .ok (.i2l, 1) := by decide +kernel
theorem dX12_feels_25 : decode cX12_feels 25 = .ok (.lconst 0, 1) := by decide +kernel
theorem dX12_feels_26 : decode cX12_feels 26 = .ok (.iload_n 2, 1) := by decide +kernel
theorem dX12_feels_27 : decode cX12_feels 27 = .ok (.ifCond .ne 9, 3) := by decide +kernel
theorem dX12_feels_30 : decode cX12_feels 30 = .ok (.ldc2_w 225, 3) := by decide +kernel
theorem dX12_feels_33 : decode cX12_feels 33 = .ok (.goto 6, 3) := by decide +kernel
theorem dX12_feels_36 : decode cX12_feels 36 = .ok (.ldc2_w 223, 3) := by decide +kernel
theorem dX12_feels_39 : decode cX12_feels 39 = .ok (.invokestatic 84, 3) := by decide +kernel
theorem dX12_feels_42 : decode cX12_feels 42 = .ok (.ifCond .ne 5, 3) := by decide +kernel
theorem dX12_feels_45 : decode cX12_feels 45 = .ok (.iconst (-1), 1) := by decide +kernel
theorem dX12_feels_46 : decode cX12_feels 46 = .ok (.ireturn, 1) := by decide +kernel
theorem dX12_feels_47 : decode cX12_feels 47 = .ok (.iload_n 2, 1) := by decide +kernel
theorem dX12_feels_48 : decode cX12_feels 48 = .ok (.ifCond .ne 12, 3) := by decide +kernel
theorem dX12_feels_51 : decode cX12_feels 51 = .ok (.aload_n 0, 1) := by decide +kernel
theorem dX12_feels_52 : decode cX12_feels 52 = .ok (.getfield 16, 3) := by decide +kernel
theorem dX12_feels_55 : decode cX12_feels 55 = .ok (.iload_n 1, 1) := by decide +kernel
theorem dX12_feels_56 : decode cX12_feels 56 = .ok (.iaload, 1) := by decide +kernel
theorem dX12_feels_57 : decode cX12_feels 57 = .ok (.goto 9, 3) := by decide +kernel
theorem dX12_feels_60 : decode cX12_feels 60 = .ok (.aload_n 0, 1) := by decide +kernel
theorem dX12_feels_61 : decode cX12_feels 61 = .ok (.getfield 19, 3) := by decide +kernel
theorem dX12_feels_64 : decode cX12_feels 64 = .ok (.iload_n 1, 1) := by decide +kernel
theorem dX12_feels_65 : decode cX12_feels 65 = .ok (.iaload, 1) := by decide +kernel
theorem dX12_feels_66 : decode cX12_feels 66 = .ok (.istore 4, 2) := by decide +kernel
theorem dX12_feels_68 : decode cX12_feels 68 = .ok (.iload_n 2, 1) := by decide +kernel
theorem dX12_feels_69 : decode cX12_feels 69 = .ok (.ifCond .ne 13, 3) := by decide +kernel
theorem dX12_feels_72 : decode cX12_feels 72 = .ok (.aload_n 0, 1) := by decide +kernel
theorem dX12_feels_73 : decode cX12_feels 73 = .ok (.getfield 16, 3) := by decide +kernel
theorem dX12_feels_76 : decode cX12_feels 76 = .ok (.iload_n 1, 1) := by decide +kernel
theorem dX12_feels_77 : decode cX12_feels 77 = .ok (.iload_n 3, 1) := by decide +kernel
theorem dX12_feels_78 : decode cX12_feels 78 = .ok (.iastore, 1) := by decide +kernel
theorem dX12_feels_79 : decode cX12_feels 79 = .ok (.goto 10, 3) := by decide +kernel
theorem dX12_feels_82 : decode cX12_feels 82 = .ok (.aload_n 0, 1) := by decide +kernel
theorem dX12_feels_83 : decode cX12_feels 83 = .ok (.getfield 19, 3) := by decide +kernel
theorem dX12_feels_86 : decode cX12_feels 86 = .ok (.iload_n 1, 1) := by decide +kernel
theorem dX12_feels_87 : decode cX12_feels 87 = .ok (.iload_n 3, 1) := by decide +kernel
theorem dX12_feels_88 : decode cX12_feels 88 = .ok (.iastore, 1) := by decide +kernel
theorem dX12_feels_89 : decode cX12_feels 89 = .ok (.iload 4, 2) := by decide +kernel
theorem dX12_feels_91 : decode cX12_feels 91 = .ok (.ireturn, 1) := by decide +kernel
theorem dX12_minute_0 : decode cX12_minute 0 = .ok (.aload_n 0, 1) := by decide +kernel
theorem dX12_minute_1 : decode cX12_minute 1 = .ok (.iconst 0, 1) := by decide +kernel
theorem dX12_minute_2 : decode cX12_minute 2 = .ok (.putfield 77, 3) := by decide +kernel
theorem dX12_minute_5 : decode cX12_minute 5 = .ok (.aload_n 0, 1) := by decide +kernel
theorem dX12_minute_6 : decode cX12_minute 6 = .ok (.iload_n 1, 1) := by decide +kernel
theorem dX12_minute_7 : decode cX12_minute 7 = .ok (.invokevirtual 99, 3) := by decide +kernel
theorem dX12_minute_10 : decode cX12_minute 10 = .ok (.ifCond .eq 15, 3) := by decide +kernel
theorem dX12_minute_13 : decode cX12_minute 13 = .ok (.iload_n 2, 1) := by decide +kernel
theorem dX12_minute_14 : decode cX12_minute 14 = .ok (.i2l, 1) := by decide +kernel
theorem dX12_minute_15 : decode cX12_minute 15 = .ok (.lconst 0, 1) := by decide +kernel
theorem dX12_minute_16 : decode cX12_minute 16 = .ok (.ldc2_w 230, 3) := by decide +kernel
theorem dX12_minute_19 : decode cX12_minute 19 = .ok (.invokestatic 84, 3) := by decide +kernel
theorem dX12_minute_22 : decode cX12_minute 22 = .ok (.ifCond .ne 5, 3) := by decide +kernel
theorem dX12_minute_25 : decode cX12_minute 25 = .ok (.iconst (-1), 1) := by decide +kernel
theorem dX12_minute_26 : decode cX12_minute 26 = .ok (.ireturn, 1) := by decide +kernel
theorem dX12_minute_27 : decode cX12_minute 27 = .ok (.aload_n 0, 1) := by decide +kernel
theorem dX12_minute_28 : decode cX12_minute 28 = .ok (.iload_n 1, 1) := by decide +kernel
theorem dX12_minute_29 : decode cX12_minute 29 = .ok (.iload_n 2, 1) := by decide +kernel
theorem dX12_minute_30 : decode cX12_minute 30 = .ok (.invokevirtual 179, 3) := by decide +kernel
theorem dX12_minute_33 : decode cX12_minute 33 = .ok (.ifCond .eq 12, 3) := by decide +kernel
theorem dX12_minute_36 : decode cX12_minute 36 = .ok (.aload_n 0, 1) := by decide +kernel
theorem dX12_minute_37 : decode cX12_minute 37 = .ok (.getfield 16, 3) := by decide +kernel
theorem dX12_minute_40 : decode cX12_minute 40 = .ok (.iload_n 1, 1) := by decide +kernel
theorem dX12_minute_41 : decode cX12_minute 41 = .ok (.iaload, 1) := by decide +kernel
theorem dX12_minute_42 : decode cX12_minute 42 = .ok (.goto 5, 3) := by decide +kernel
theorem dX12_minute_45 : decode cX12_minute 45 = .ok (.bipush (-3), 2) := by decide +kernel
theorem dX12_minute_47 : decode cX12_minute 47 = .ok (.ireturn, 1) := by decide +kernel
theorem dX12_change_0 : decode cX12_change 0 = .ok (.aload_n 0, 1) := by decide +kernel
theorem dX12_change_1 : decode cX12_change 1 = .ok (.iconst 0, 1) := by decide +kernel
theorem dX12_change_2 : decode cX12_change 2 = .ok (.putfield 77, 3) := by decide +kernel
theorem dX12_change_5 : decode cX12_change 5 = .ok (.aload_n 0, 1) := by decide +kernel
theorem dX12_change_6 : decode cX12_change 6 = .ok (.iload_n 1, 1) := by decide +kernel
theorem dX12_change_7 : decode cX12_change 7 = .ok (.invokevirtual 99, 3) := by decide +kernel
theorem dX12_change_10 : decode cX12_change 10 = .ok (.ifCond .eq 16, 3) := by decide +kernel
theorem dX12_change_13 : decode cX12_change 13 = .ok (.aload_n 0, 1) := by decide +kernel
theorem dX12_change_14 : decode cX12_change 14 = .ok (.iload_n 2, 1) := by decide +kernel
theorem dX12_change_15 : decode cX12_change 15 = .ok (.invokevirtual 99, 3) := by decide +kernel
theorem dX12_change_18 : decode cX12_change 18 = .ok (.ifCond .eq 8, 3) := by decide +kernel
theorem dX12_change_21 : decode cX12_change 21 = .ok (.iload_n 1, 1) := by decide +kernel
theorem dX12_change_22 : decode cX12_change 22 = .ok (.iload_n 2, 1) := by decide +kernel
theorem dX12_change_23 : decode cX12_change 23 = .ok (.if_icmp .ne 5, 3) := by decide +kernel
theorem dX12_change_26 : decode cX12_change 26 = .ok (.iconst (-1), 1) := by decide +kernel
theorem dX12_change_27 : decode cX12_change 27 = .ok (.ireturn, 1) := by decide +kernel
theorem dX12_change_28 : decode cX12_change 28 = .ok (.aload_n 0, 1) := by decide +kernel
theorem dX12_change_29 : decode cX12_change 29 = .ok (.iload_n 1, 1) := by decide +kernel
theorem dX12_change_30 : decode cX12_change 30 = .ok (.iload_n 2, 1) := by decide +kernel
theorem dX12_change_31 : decode cX12_change 31 = .ok (.invokevirtual 186, 3) := by decide +kernel
theorem dX12_change_34 : decode cX12_change 34 = .ok (.iconst 1, 1) := by decide +kernel
theorem dX12_change_35 : decode cX12_change 35 = .ok (.ireturn, 1) := by decide +kernel
theorem dX12_rest_0 : decode cX12_rest 0 = .ok (.aload_n 0, 1) := by decide +kernel
theorem dX12_rest_1 : decode cX12_rest 1 = .ok (.iconst 0, 1) := by decide +kernel
theorem dX12_rest_2 : decode cX12_rest 2 = .ok (.putfield 77, 3) := by decide +kernel
theorem dX12_rest_5 : decode cX12_rest 5 = .ok (.iload_n 1, 1) := by decide +kernel
theorem dX12_rest_6 : decode cX12_rest 6 = .ok (.i2l, 1) := by decide +kernel
theorem dX12_rest_7 : decode cX12_rest 7 = .ok (.lconst 0, 1) := by decide +kernel
theorem dX12_rest_8 : decode cX12_rest 8 = .ok (.ldc2_w 232, 3) := by decide +kernel
theorem dX12_rest_11 : decode cX12_rest 11 = .ok (.invokestatic 84, 3) := by decide +kernel
theorem dX12_rest_14 : decode cX12_rest 14 = .ok (.ifCond .ne 5, 3) := by decide +kernel
theorem dX12_rest_17 : decode cX12_rest 17 = .ok (.iconst (-1), 1) := by decide +kernel
theorem dX12_rest_18 : decode cX12_rest 18 = .ok (.ireturn, 1) := by decide +kernel
theorem dX12_rest_19 : decode cX12_rest 19 = .ok (.aload_n 0, 1) := by decide +kernel
theorem dX12_rest_20 : decode cX12_rest 20 = .ok (.iload_n 1, 1) := by decide +kernel
theorem dX12_rest_21 : decode cX12_rest 21 = .ok (.invokevirtual 183, 3) := by decide +kernel
theorem dX12_rest_24 : decode cX12_rest 24 = .ok (.aload_n 0, 1) := by decide +kernel
theorem dX12_rest_25 : decode cX12_rest 25 = .ok (.invokevirtual 234, 3) := by decide +kernel
theorem dX12_rest_28 : decode cX12_rest 28 = .ok (.ireturn, 1) := by decide +kernel
theorem dX12_readyBits_0 : decode cX12_readyBits 0 = .ok (.iconst 0, 1) := by decide +kernel
theorem dX12_readyBits_1 : decode cX12_readyBits 1 = .ok (.istore_n 1, 1) := by decide +kernel
theorem dX12_readyBits_2 : decode cX12_readyBits 2 = .ok (.iconst 0, 1) := by decide +kernel
theorem dX12_readyBits_3 : decode cX12_readyBits 3 = .ok (.istore_n 2, 1) := by decide +kernel
theorem dX12_readyBits_4 : decode cX12_readyBits 4 = .ok (.iload_n 2, 1) := by decide +kernel
theorem dX12_readyBits_5 : decode cX12_readyBits 5 = .ok (.aload_n 0, 1) := by decide +kernel
theorem dX12_readyBits_6 : decode cX12_readyBits 6 = .ok (.getfield 81, 3) := by decide +kernel
theorem dX12_readyBits_9 : decode cX12_readyBits 9 = .ok (.if_icmp .ge 27, 3) := by decide +kernel
theorem dX12_readyBits_12 : decode cX12_readyBits 12 = .ok (.iload_n 1, 1) := by decide +kernel
theorem dX12_readyBits_13 : decode cX12_readyBits 13 = .ok (.aload_n 0, 1) := by decide +kernel
theorem dX12_readyBits_14 : decode cX12_readyBits 14 = .ok (.iload_n 2, 1) := by decide +kernel
theorem dX12_readyBits_15 : decode cX12_readyBits 15 = .ok (.invokevirtual 109, 3) := by decide +kernel
theorem dX12_readyBits_18 : decode cX12_readyBits 18 = .ok (.ifCond .eq 9, 3) := by decide +kernel
theorem dX12_readyBits_21 : decode cX12_readyBits 21 = .ok (.iconst 1, 1) := by decide +kernel
theorem dX12_readyBits_22 : decode cX12_readyBits 22 = .ok (.iload_n 2, 1) := by decide +kernel
theorem dX12_readyBits_23 : decode cX12_readyBits 23 = .ok (.ishl, 1) := by decide +kernel
theorem dX12_readyBits_24 : decode cX12_readyBits 24 = .ok (.goto 4, 3) := by decide +kernel
theorem dX12_readyBits_27 : decode cX12_readyBits 27 = .ok (.iconst 0, 1) := by decide +kernel
theorem dX12_readyBits_28 : decode cX12_readyBits 28 = .ok (.ior, 1) := by decide +kernel
theorem dX12_readyBits_29 : decode cX12_readyBits 29 = .ok (.istore_n 1, 1) := by decide +kernel
theorem dX12_readyBits_30 : decode cX12_readyBits 30 = .ok (.iinc 2 1, 3) := by decide +kernel
theorem dX12_readyBits_33 : decode cX12_readyBits 33 = .ok (.goto (-29), 3) := by decide +kernel
theorem dX12_readyBits_36 : decode cX12_readyBits 36 = .ok (.iload_n 1, 1) := by decide +kernel
theorem dX12_readyBits_37 : decode cX12_readyBits 37 = .ok (.ireturn, 1) := by decide +kernel
theorem dX12_ready_0 : decode cX12_ready 0 = .ok (.aload_n 0, 1) := by decide +kernel
theorem dX12_ready_1 : decode cX12_ready 1 = .ok (.iconst 0, 1) := by decide +kernel
theorem dX12_ready_2 : decode cX12_ready 2 = .ok (.putfield 77, 3) := by decide +kernel
theorem dX12_ready_5 : decode cX12_ready 5 = .ok (.aload_n 0, 1) := by decide +kernel
theorem dX12_ready_6 : decode cX12_ready 6 = .ok (.invokevirtual 237, 3) := by decide +kernel
theorem dX12_ready_9 : decode cX12_ready 9 = .ok (.ireturn, 1) := by decide +kernel
theorem dX12_behindWay_0 : decode cX12_behindWay 0 = .ok (.iload_n 2, 1) := by decide +kernel
theorem dX12_behindWay_1 : decode cX12_behindWay 1 = .ok (.bipush 21, 2) := by decide +kernel
theorem dX12_behindWay_3 : decode cX12_behindWay 3 = .ok (.idiv, 1) := by decide +kernel
theorem dX12_behindWay_4 : decode cX12_behindWay 4 = .ok (.istore 4, 2) := by decide +kernel
theorem dX12_behindWay_6 : decode cX12_behindWay 6 = .ok (.iload_n 2, 1) := by decide +kernel
theorem dX12_behindWay_7 : decode cX12_behindWay 7 = .ok (.bipush 21, 2) := by decide +kernel
theorem dX12_behindWay_9 : decode cX12_behindWay 9 = .ok (.irem, 1) := by decide +kernel
theorem dX12_behindWay_10 : decode cX12_behindWay 10 = .ok (.istore 5, 2) := by decide +kernel
theorem dX12_behindWay_12 : decode cX12_behindWay 12 = .ok (.iload_n 3, 1) := by decide +kernel
theorem dX12_behindWay_13 : decode cX12_behindWay 13 = .ok (.ifCond .ne 21, 3) := by decide +kernel
theorem dX12_behindWay_16 : decode cX12_behindWay 16 = .ok (.iload 5, 2) := by decide +kernel
theorem dX12_behindWay_18 : decode cX12_behindWay 18 = .ok (.aload_n 0, 1) := by decide +kernel
theorem dX12_behindWay_19 : decode cX12_behindWay 19 = .ok (.iload_n 1, 1) := by decide +kernel
theorem dX12_behindWay_20 : decode cX12_behindWay 20 = .ok (.invokevirtual 122, 3) := by decide +kernel
theorem dX12_behindWay_23 : decode cX12_behindWay 23 = .ok (.iadd, 1) := by decide +kernel
theorem dX12_behindWay_24 : decode cX12_behindWay 24 = .ok (.bipush 20, 2) := by decide +kernel
theorem dX12_behindWay_26 : decode cX12_behindWay 26 = .ok (.invokestatic 103, 3) := by decide +kernel
theorem dX12_behindWay_29 : decode cX12_behindWay 29 = .ok (.istore 5, 2) := by decide +kernel
theorem dX12_behindWay_31 : decode cX12_behindWay 31 = .ok (.goto 87, 3) := by decide +kernel
theorem dX12_behindWay_34 : decode cX12_behindWay 34 = .ok (.iload_n 3, 1) := by decide +kernel
theorem dX12_behindWay_35 : decode cX12_behindWay 35 = .ok (.iconst 1, 1) := by decide +kernel
theorem dX12_behindWay_36 : decode cX12_behindWay 36 = .ok (.if_icmp .ne 49, 3) := by decide +kernel
theorem dX12_behindWay_39 : decode cX12_behindWay 39 = .ok (.iload 5, 2) := by decide +kernel
theorem dX12_behindWay_41 : decode cX12_behindWay 41 = .ok (.aload_n 0, 1) := by decide +kernel
theorem dX12_behindWay_42 : decode cX12_behindWay 42 = .ok (.iload_n 1, 1) := by decide +kernel
theorem dX12_behindWay_43 : decode cX12_behindWay 43 = .ok (.invokevirtual 122, 3) := by decide +kernel
theorem dX12_behindWay_46 : decode cX12_behindWay 46 = .ok (.iconst 2, 1) := by decide +kernel
theorem dX12_behindWay_47 : decode cX12_behindWay 47 = .ok (.idiv, 1) := by decide +kernel
theorem dX12_behindWay_48 : decode cX12_behindWay 48 = .ok (.iadd, 1) := by decide +kernel
theorem dX12_behindWay_49 : decode cX12_behindWay 49 = .ok (.iconst 1, 1) := by decide +kernel
theorem dX12_behindWay_50 : decode cX12_behindWay 50 = .ok (.iadd, 1) := by decide +kernel
theorem dX12_behindWay_51 : decode cX12_behindWay 51 = .ok (.bipush 20, 2) := by decide +kernel
theorem dX12_behindWay_53 : decode cX12_behindWay 53 = .ok (.invokestatic 103, 3) := by decide +kernel
theorem dX12_behindWay_56 : decode cX12_behindWay 56 = .ok (.istore 5, 2) := by decide +kernel
theorem dX12_behindWay_58 : decode cX12_behindWay 58 = .ok (.iload 4, 2) := by decide +kernel
theorem dX12_behindWay_60 : decode cX12_behindWay 60 = .ok (.iload 5, 2) := by decide +kernel
theorem dX12_behindWay_62 : decode cX12_behindWay 62 = .ok (.aload_n 0, 1) := by decide +kernel
theorem dX12_behindWay_63 : decode cX12_behindWay 63 = .ok (.iload_n 1, 1) := by decide +kernel
theorem dX12_behindWay_64 : decode cX12_behindWay 64 = .ok (.iload 4, 2) := by decide +kernel
theorem dX12_behindWay_66 : decode cX12_behindWay 66 = .ok (.invokevirtual 92, 3) := by decide +kernel
theorem dX12_behindWay_69 : decode cX12_behindWay 69 = .ok (.iconst 3, 1) := by decide +kernel
theorem dX12_behindWay_70 : decode cX12_behindWay 70 = .ok (.iadd, 1) := by decide +kernel
theorem dX12_behindWay_71 : decode cX12_behindWay 71 = .ok (.if_icmp .lt 7, 3) := by decide +kernel
theorem dX12_behindWay_74 : decode cX12_behindWay 74 = .ok (.iconst 1, 1) := by decide +kernel
theorem dX12_behindWay_75 : decode cX12_behindWay 75 = .ok (.goto 4, 3) := by decide +kernel
theorem dX12_behindWay_78 : decode cX12_behindWay 78 = .ok (.iconst 0, 1) := by decide +kernel
theorem dX12_behindWay_79 : decode cX12_behindWay 79 = .ok (.iadd, 1) := by decide +kernel
theorem dX12_behindWay_80 : decode cX12_behindWay 80 = .ok (.istore 4, 2) := by decide +kernel
theorem dX12_behindWay_82 : decode cX12_behindWay 82 = .ok (.goto 36, 3) := by decide +kernel
theorem dX12_behindWay_85 : decode cX12_behindWay 85 = .ok (.iload 5, 2) := by decide +kernel
theorem dX12_behindWay_87 : decode cX12_behindWay 87 = .ok (.aload_n 0, 1) := by decide +kernel
theorem dX12_behindWay_88 : decode cX12_behindWay 88 = .ok (.iload_n 1, 1) := by decide +kernel
theorem dX12_behindWay_89 : decode cX12_behindWay 89 = .ok (.iload 4, 2) := by decide +kernel
theorem dX12_behindWay_91 : decode cX12_behindWay 91 = .ok (.invokevirtual 92, 3) := by decide +kernel
theorem dX12_behindWay_94 : decode cX12_behindWay 94 = .ok (.if_icmp .lt 9, 3) := by decide +kernel
theorem dX12_behindWay_97 : decode cX12_behindWay 97 = .ok (.iinc 4 1, 3) := by decide +kernel
theorem dX12_behindWay_100 : decode cX12_behindWay 100 = .ok (.goto 18, 3) := by decide +kernel
theorem dX12_behindWay_103 : decode cX12_behindWay 103 = .ok (.iload 5, 2) := by decide +kernel
theorem dX12_behindWay_105 : decode cX12_behindWay 105 = .ok (.aload_n 0, 1) := by decide +kernel
theorem dX12_behindWay_106 : decode cX12_behindWay 106 = .ok (.iload_n 1, 1) := by decide +kernel
theorem dX12_behindWay_107 : decode cX12_behindWay 107 = .ok (.invokevirtual 116, 3) := by decide +kernel
theorem dX12_behindWay_110 : decode cX12_behindWay 110 = .ok (.isub, 1) := by decide +kernel
theorem dX12_behindWay_111 : decode cX12_behindWay 111 = .ok (.bipush 20, 2) := by decide +kernel
theorem dX12_behindWay_113 : decode cX12_behindWay 113 = .ok (.invokestatic 103, 3) := by decide +kernel
theorem dX12_behindWay_116 : decode cX12_behindWay 116 = .ok (.istore 5, 2) := by decide +kernel
theorem dX12_behindWay_118 : decode cX12_behindWay 118 = .ok (.bipush 21, 2) := by decide +kernel
theorem dX12_behindWay_120 : decode cX12_behindWay 120 = .ok (.iload 4, 2) := by decide +kernel
theorem dX12_behindWay_122 : decode cX12_behindWay 122 = .ok (.imul, 1) := by decide +kernel
theorem dX12_behindWay_123 : decode cX12_behindWay 123 = .ok (.iload 5, 2) := by decide +kernel
theorem dX12_behindWay_125 : decode cX12_behindWay 125 = .ok (.iadd, 1) := by decide +kernel
theorem dX12_behindWay_126 : decode cX12_behindWay 126 = .ok (.ireturn, 1) := by decide +kernel
theorem dX12_layFewest_0 : decode cX12_layFewest 0 = .ok (.iconst 0, 1) := by decide +kernel
theorem dX12_layFewest_1 : decode cX12_layFewest 1 = .ok (.istore_n 3, 1) := by decide +kernel
theorem dX12_layFewest_2 : decode cX12_layFewest 2 = .ok (.iload_n 3, 1) := by decide +kernel
theorem dX12_layFewest_3 : decode cX12_layFewest 3 = .ok (.sipush 168, 3) := by decide +kernel
theorem dX12_layFewest_6 : decode cX12_layFewest 6 = .ok (.if_icmp .ge 28, 3) := by decide +kernel
theorem dX12_layFewest_9 : decode cX12_layFewest 9 = .ok (.aload_n 0, 1) := by decide +kernel
theorem dX12_layFewest_10 : decode cX12_layFewest 10 = .ok (.getfield 59, 3) := by decide +kernel
theorem dX12_layFewest_13 : decode cX12_layFewest 13 = .ok (.iload_n 3, 1) := by decide +kernel
theorem dX12_layFewest_14 : decode cX12_layFewest 14 = .ok (.iload_n 3, 1) := by decide +kernel
theorem dX12_layFewest_15 : decode cX12_layFewest 15 = .ok (.sipush 147, 3) := by decide +kernel
theorem dX12_layFewest_18 : decode cX12_layFewest 18 = .ok (.if_icmp .lt 7, 3) := by decide +kernel
theorem dX12_layFewest_21 : decode cX12_layFewest 21 = .ok (.iconst 0, 1) := by decide +kernel
theorem dX12_layFewest_22 : decode cX12_layFewest 22 = .ok (.goto 5, 3) := by decide +kernel
theorem dX12_layFewest_25 : decode cX12_layFewest 25 = .ok (.bipush 99, 2) := by decide +kernel
theorem dX12_layFewest_27 : decode cX12_layFewest 27 = .ok (.iastore, 1) := by decide +kernel
theorem dX12_layFewest_28 : decode cX12_layFewest 28 = .ok (.iinc 3 1, 3) := by decide +kernel
theorem dX12_layFewest_31 : decode cX12_layFewest 31 = .ok (.goto (-29), 3) := by decide +kernel
theorem dX12_layFewest_34 : decode cX12_layFewest 34 = .ok (.iconst 1, 1) := by decide +kernel
theorem dX12_layFewest_35 : decode cX12_layFewest 35 = .ok (.istore_n 3, 1) := by decide +kernel
theorem dX12_layFewest_36 : decode cX12_layFewest 36 = .ok (.iload_n 3, 1) := by decide +kernel
theorem dX12_layFewest_37 : decode cX12_layFewest 37 = .ok (.ifCond .eq 110, 3) := by decide +kernel
theorem dX12_layFewest_40 : decode cX12_layFewest 40 = .ok (.iconst 0, 1) := by decide +kernel
theorem dX12_layFewest_41 : decode cX12_layFewest 41 = .ok (.istore_n 3, 1) := by decide +kernel
theorem dX12_layFewest_42 : decode cX12_layFewest 42 = .ok (.sipush 146, 3) := by decide +kernel
theorem dX12_layFewest_45 : decode cX12_layFewest 45 = .ok (.istore 4, 2) := by decide +kernel
theorem dX12_layFewest_47 : decode cX12_layFewest 47 = .ok (.iload 4, 2) := by decide +kernel
theorem dX12_layFewest_49 : decode cX12_layFewest 49 = .ok (.ifCond .lt 95, 3) := by decide +kernel
theorem dX12_layFewest_52 : decode cX12_layFewest 52 = .ok (.iload_n 2, 1) := by decide +kernel
theorem dX12_layFewest_53 : decode cX12_layFewest 53 = .ok (.istore 5, 2) := by decide +kernel
theorem dX12_layFewest_55 : decode cX12_layFewest 55 = .ok (.iload 5, 2) := by decide +kernel
theorem dX12_layFewest_57 : decode cX12_layFewest 57 = .ok (.iconst 3, 1) := by decide +kernel
theorem dX12_layFewest_58 : decode cX12_layFewest 58 = .ok (.if_icmp .ge 80, 3) := by decide +kernel
theorem dX12_layFewest_61 : decode cX12_layFewest 61 = .ok (.aload_n 0, 1) := by decide +kernel
theorem dX12_layFewest_62 : decode cX12_layFewest 62 = .ok (.getfield 59, 3) := by decide +kernel
theorem dX12_layFewest_65 : decode cX12_layFewest 65 = .ok (.aload_n 0, 1) := by decide +kernel
theorem dX12_layFewest_66 : decode cX12_layFewest 66 = .ok (.iload_n 1, 1) := by decide +kernel
theorem dX12_layFewest_67 : decode cX12_layFewest 67 = .ok (.iload 4, 2) := by decide +kernel
theorem dX12_layFewest_69 : decode cX12_layFewest 69 = .ok (.iload 5, 2) := by decide +kernel
theorem dX12_layFewest_71 : decode cX12_layFewest 71 = .ok (.invokevirtual 240, 3) := by decide +kernel
theorem dX12_layFewest_74 : decode cX12_layFewest 74 = .ok (.iaload, 1) := by decide +kernel
theorem dX12_layFewest_75 : decode cX12_layFewest 75 = .ok (.iconst 1, 1) := by decide +kernel
theorem dX12_layFewest_76 : decode cX12_layFewest 76 = .ok (.iadd, 1) := by decide +kernel
theorem dX12_layFewest_77 : decode cX12_layFewest 77 = .ok (.istore 6, 2) := by decide +kernel
theorem dX12_layFewest_79 : decode cX12_layFewest 79 = .ok (.iload_n 3, 1) := by decide +kernel
theorem dX12_layFewest_80 : decode cX12_layFewest 80 = .ok (.ifCond .ne 15, 3) := by decide +kernel
theorem dX12_layFewest_83 : decode cX12_layFewest 83 = .ok (.iload 6, 2) := by decide +kernel
theorem dX12_layFewest_85 : decode cX12_layFewest 85 = .ok (.aload_n 0, 1) := by decide +kernel
theorem dX12_layFewest_86 : decode cX12_layFewest 86 = .ok (.getfield 59, 3) := by decide +kernel
theorem dX12_layFewest_89 : decode cX12_layFewest 89 = .ok (.iload 4, 2) := by decide +kernel
theorem dX12_layFewest_91 : decode cX12_layFewest 91 = .ok (.iaload, 1) := by decide +kernel
theorem dX12_layFewest_92 : decode cX12_layFewest 92 = .ok (.if_icmp .ge 7, 3) := by decide +kernel
theorem dX12_layFewest_95 : decode cX12_layFewest 95 = .ok (.iconst 1, 1) := by decide +kernel
theorem dX12_layFewest_96 : decode cX12_layFewest 96 = .ok (.goto 4, 3) := by decide +kernel
theorem dX12_layFewest_99 : decode cX12_layFewest 99 = .ok (.iconst 0, 1) := by decide +kernel
theorem dX12_layFewest_100 : decode cX12_layFewest 100 = .ok (.istore_n 3, 1) := by decide +kernel
theorem dX12_layFewest_101 : decode cX12_layFewest 101 = .ok (.aload_n 0, 1) := by decide +kernel
theorem dX12_layFewest_102 : decode cX12_layFewest 102 = .ok (.getfield 59, 3) := by decide +kernel
theorem dX12_layFewest_105 : decode cX12_layFewest 105 = .ok (.iload 4, 2) := by decide +kernel
theorem dX12_layFewest_107 : decode cX12_layFewest 107 = .ok (.iload 6, 2) := by decide +kernel
theorem dX12_layFewest_109 : decode cX12_layFewest 109 = .ok (.aload_n 0, 1) := by decide +kernel
theorem dX12_layFewest_110 : decode cX12_layFewest 110 = .ok (.getfield 59, 3) := by decide +kernel
theorem dX12_layFewest_113 : decode cX12_layFewest 113 = .ok (.iload 4, 2) := by decide +kernel
theorem dX12_layFewest_115 : decode cX12_layFewest 115 = .ok (.iaload, 1) := by decide +kernel
theorem dX12_layFewest_116 : decode cX12_layFewest 116 = .ok (.if_icmp .ge 8, 3) := by decide +kernel
theorem dX12_layFewest_119 : decode cX12_layFewest 119 = .ok (.iload 6, 2) := by decide +kernel
theorem dX12_layFewest_121 : decode cX12_layFewest 121 = .ok (.goto 10, 3) := by decide +kernel
theorem dX12_layFewest_124 : decode cX12_layFewest 124 = .ok (.aload_n 0, 1) := by decide +kernel
theorem dX12_layFewest_125 : decode cX12_layFewest 125 = .ok (.getfield 59, 3) := by decide +kernel
theorem dX12_layFewest_128 : decode cX12_layFewest 128 = .ok (.iload 4, 2) := by decide +kernel
theorem dX12_layFewest_130 : decode cX12_layFewest 130 = .ok (.iaload, 1) := by decide +kernel
theorem dX12_layFewest_131 : decode cX12_layFewest 131 = .ok (.iastore, 1) := by decide +kernel
theorem dX12_layFewest_132 : decode cX12_layFewest 132 = .ok (.iinc 5 1, 3) := by decide +kernel
theorem dX12_layFewest_135 : decode cX12_layFewest 135 = .ok (.goto (-80), 3) := by decide +kernel
theorem dX12_layFewest_138 : decode cX12_layFewest 138 = .ok (.iinc 4 (-1), 3) := by decide +kernel
theorem dX12_layFewest_141 : decode cX12_layFewest 141 = .ok (.goto (-94), 3) := by decide +kernel
theorem dX12_layFewest_144 : decode cX12_layFewest 144 = .ok (.goto (-108), 3) := by decide +kernel
theorem dX12_layFewest_147 : decode cX12_layFewest 147 = .ok (.return_, 1) := by decide +kernel
theorem dX12_stateOf_0 : decode cX12_stateOf 0 = .ok (.bipush 21, 2) := by decide +kernel
theorem dX12_stateOf_2 : decode cX12_stateOf 2 = .ok (.aload_n 0, 1) := by decide +kernel
theorem dX12_stateOf_3 : decode cX12_stateOf 3 = .ok (.getfield 19, 3) := by decide +kernel
theorem dX12_stateOf_6 : decode cX12_stateOf 6 = .ok (.iload_n 1, 1) := by decide +kernel
theorem dX12_stateOf_7 : decode cX12_stateOf 7 = .ok (.iaload, 1) := by decide +kernel
theorem dX12_stateOf_8 : decode cX12_stateOf 8 = .ok (.imul, 1) := by decide +kernel
theorem dX12_stateOf_9 : decode cX12_stateOf 9 = .ok (.aload_n 0, 1) := by decide +kernel
theorem dX12_stateOf_10 : decode cX12_stateOf 10 = .ok (.getfield 16, 3) := by decide +kernel
theorem dX12_stateOf_13 : decode cX12_stateOf 13 = .ok (.iload_n 1, 1) := by decide +kernel
theorem dX12_stateOf_14 : decode cX12_stateOf 14 = .ok (.iaload, 1) := by decide +kernel
theorem dX12_stateOf_15 : decode cX12_stateOf 15 = .ok (.iadd, 1) := by decide +kernel
theorem dX12_stateOf_16 : decode cX12_stateOf 16 = .ok (.ireturn, 1) := by decide +kernel
theorem dX12_aloneFrom_0 : decode cX12_aloneFrom 0 = .ok (.aload_n 0, 1) := by decide +kernel
theorem dX12_aloneFrom_1 : decode cX12_aloneFrom 1 = .ok (.getfield 59, 3) := by decide +kernel
theorem dX12_aloneFrom_4 : decode cX12_aloneFrom 4 = .ok (.bipush 21, 2) := by decide +kernel
theorem dX12_aloneFrom_6 : decode cX12_aloneFrom 6 = .ok (.aload_n 0, 1) := by decide +kernel
theorem dX12_aloneFrom_7 : decode cX12_aloneFrom 7 = .ok (.getfield 19, 3) := by decide +kernel
theorem dX12_aloneFrom_10 : decode cX12_aloneFrom 10 = .ok (.iload_n 1, 1) := by decide +kernel
theorem dX12_aloneFrom_11 : decode cX12_aloneFrom 11 = .ok (.iaload, 1) := by decide +kernel
theorem dX12_aloneFrom_12 : decode cX12_aloneFrom 12 = .ok (.imul, 1) := by decide +kernel
theorem dX12_aloneFrom_13 : decode cX12_aloneFrom 13 = .ok (.iload_n 2, 1) := by decide +kernel
theorem dX12_aloneFrom_14 : decode cX12_aloneFrom 14 = .ok (.bipush 20, 2) := by decide +kernel
theorem dX12_aloneFrom_16 : decode cX12_aloneFrom 16 = .ok (.invokestatic 103, 3) := by decide +kernel
theorem dX12_aloneFrom_19 : decode cX12_aloneFrom 19 = .ok (.iadd, 1) := by decide +kernel
theorem dX12_aloneFrom_20 : decode cX12_aloneFrom 20 = .ok (.iaload, 1) := by decide +kernel
theorem dX12_aloneFrom_21 : decode cX12_aloneFrom 21 = .ok (.istore_n 3, 1) := by decide +kernel
theorem dX12_aloneFrom_22 : decode cX12_aloneFrom 22 = .ok (.iload_n 3, 1) := by decide +kernel
theorem dX12_aloneFrom_23 : decode cX12_aloneFrom 23 = .ok (.bipush 60, 2) := by decide +kernel
theorem dX12_aloneFrom_25 : decode cX12_aloneFrom 25 = .ok (.if_icmp .le 8, 3) := by decide +kernel
theorem dX12_aloneFrom_28 : decode cX12_aloneFrom 28 = .ok (.bipush (-4), 2) := by decide +kernel
theorem dX12_aloneFrom_30 : decode cX12_aloneFrom 30 = .ok (.goto 4, 3) := by decide +kernel
theorem dX12_aloneFrom_33 : decode cX12_aloneFrom 33 = .ok (.iload_n 3, 1) := by decide +kernel
theorem dX12_aloneFrom_34 : decode cX12_aloneFrom 34 = .ok (.ireturn, 1) := by decide +kernel
theorem dX12_alone_0 : decode cX12_alone 0 = .ok (.aload_n 0, 1) := by decide +kernel
theorem dX12_alone_1 : decode cX12_alone 1 = .ok (.iconst 0, 1) := by decide +kernel
theorem dX12_alone_2 : decode cX12_alone 2 = .ok (.putfield 77, 3) := by decide +kernel
theorem dX12_alone_5 : decode cX12_alone 5 = .ok (.aload_n 0, 1) := by decide +kernel
theorem dX12_alone_6 : decode cX12_alone 6 = .ok (.iload_n 1, 1) := by decide +kernel
theorem dX12_alone_7 : decode cX12_alone 7 = .ok (.invokevirtual 99, 3) := by decide +kernel
theorem dX12_alone_10 : decode cX12_alone 10 = .ok (.ifCond .eq 13, 3) := by decide +kernel
theorem dX12_alone_13 : decode cX12_alone 13 = .ok (.iload_n 2, 1) := by decide +kernel
theorem dX12_alone_14 : decode cX12_alone 14 = .ok (.i2l, 1) := by decide +kernel
theorem dX12_alone_15 : decode cX12_alone 15 = .ok (.lconst 0, 1) := by decide +kernel
theorem dX12_alone_16 : decode cX12_alone 16 = .ok (.lconst 1, 1) := by decide +kernel
theorem dX12_alone_17 : decode cX12_alone 17 = .ok (.invokestatic 84, 3) := by decide +kernel
theorem dX12_alone_20 : decode cX12_alone 20 = .ok (.ifCond .ne 5, 3) := by decide +kernel
theorem dX12_alone_23 : decode cX12_alone 23 = .ok (.iconst (-1), 1) := by decide +kernel
theorem dX12_alone_24 : decode cX12_alone 24 = .ok (.ireturn, 1) := by decide +kernel
theorem dX12_alone_25 : decode cX12_alone 25 = .ok (.aload_n 0, 1) := by decide +kernel
theorem dX12_alone_26 : decode cX12_alone 26 = .ok (.iload_n 1, 1) := by decide +kernel
theorem dX12_alone_27 : decode cX12_alone 27 = .ok (.iconst 0, 1) := by decide +kernel
theorem dX12_alone_28 : decode cX12_alone 28 = .ok (.invokevirtual 244, 3) := by decide +kernel
theorem dX12_alone_31 : decode cX12_alone 31 = .ok (.aload_n 0, 1) := by decide +kernel
theorem dX12_alone_32 : decode cX12_alone 32 = .ok (.iload_n 1, 1) := by decide +kernel
theorem dX12_alone_33 : decode cX12_alone 33 = .ok (.aload_n 0, 1) := by decide +kernel
theorem dX12_alone_34 : decode cX12_alone 34 = .ok (.getfield 16, 3) := by decide +kernel
theorem dX12_alone_37 : decode cX12_alone 37 = .ok (.iload_n 1, 1) := by decide +kernel
theorem dX12_alone_38 : decode cX12_alone 38 = .ok (.iaload, 1) := by decide +kernel
theorem dX12_alone_39 : decode cX12_alone 39 = .ok (.invokevirtual 247, 3) := by decide +kernel
theorem dX12_alone_42 : decode cX12_alone 42 = .ok (.istore_n 3, 1) := by decide +kernel
theorem dX12_alone_43 : decode cX12_alone 43 = .ok (.iload_n 2, 1) := by decide +kernel
theorem dX12_alone_44 : decode cX12_alone 44 = .ok (.ifCond .eq 8, 3) := by decide +kernel
theorem dX12_alone_47 : decode cX12_alone 47 = .ok (.iload_n 3, 1) := by decide +kernel
theorem dX12_alone_48 : decode cX12_alone 48 = .ok (.iconst 1, 1) := by decide +kernel
theorem dX12_alone_49 : decode cX12_alone 49 = .ok (.if_icmp .ge 14, 3) := by decide +kernel
theorem dX12_alone_52 : decode cX12_alone 52 = .ok (.iload_n 2, 1) := by decide +kernel
theorem dX12_alone_53 : decode cX12_alone 53 = .ok (.ifCond .ne 7, 3) := by decide +kernel
theorem dX12_alone_56 : decode cX12_alone 56 = .ok (.iload_n 3, 1) := by decide +kernel
theorem dX12_alone_57 : decode cX12_alone 57 = .ok (.goto 5, 3) := by decide +kernel
theorem dX12_alone_60 : decode cX12_alone 60 = .ok (.bipush (-4), 2) := by decide +kernel
theorem dX12_alone_62 : decode cX12_alone 62 = .ok (.ireturn, 1) := by decide +kernel
theorem dX12_alone_63 : decode cX12_alone 63 = .ok (.iconst 0, 1) := by decide +kernel
theorem dX12_alone_64 : decode cX12_alone 64 = .ok (.istore 4, 2) := by decide +kernel
theorem dX12_alone_66 : decode cX12_alone 66 = .ok (.aload_n 0, 1) := by decide +kernel
theorem dX12_alone_67 : decode cX12_alone 67 = .ok (.getfield 59, 3) := by decide +kernel
theorem dX12_alone_70 : decode cX12_alone 70 = .ok (.aload_n 0, 1) := by decide +kernel
theorem dX12_alone_71 : decode cX12_alone 71 = .ok (.iload_n 1, 1) := by decide +kernel
theorem dX12_alone_72 : decode cX12_alone 72 = .ok (.aload_n 0, 1) := by decide +kernel
theorem dX12_alone_73 : decode cX12_alone 73 = .ok (.iload_n 1, 1) := by decide +kernel
theorem dX12_alone_74 : decode cX12_alone 74 = .ok (.invokevirtual 250, 3) := by decide +kernel
theorem dX12_alone_77 : decode cX12_alone 77 = .ok (.iload 4, 2) := by decide +kernel
theorem dX12_alone_79 : decode cX12_alone 79 = .ok (.invokevirtual 240, 3) := by decide +kernel
theorem dX12_alone_82 : decode cX12_alone 82 = .ok (.iaload, 1) := by decide +kernel
theorem dX12_alone_83 : decode cX12_alone 83 = .ok (.iconst 1, 1) := by decide +kernel
theorem dX12_alone_84 : decode cX12_alone 84 = .ok (.iadd, 1) := by decide +kernel
theorem dX12_alone_85 : decode cX12_alone 85 = .ok (.iload_n 3, 1) := by decide +kernel
theorem dX12_alone_86 : decode cX12_alone 86 = .ok (.if_icmp .le 9, 3) := by decide +kernel
theorem dX12_alone_89 : decode cX12_alone 89 = .ok (.iinc 4 1, 3) := by decide +kernel
theorem dX12_alone_92 : decode cX12_alone 92 = .ok (.goto (-26), 3) := by decide +kernel
theorem dX12_alone_95 : decode cX12_alone 95 = .ok (.iload 4, 2) := by decide +kernel
theorem dX12_alone_97 : decode cX12_alone 97 = .ok (.ireturn, 1) := by decide +kernel
theorem dX12_neverHeld_0 : decode cX12_neverHeld 0 = .ok (.aload_n 0, 1) := by decide +kernel
theorem dX12_neverHeld_1 : decode cX12_neverHeld 1 = .ok (.iconst 0, 1) := by decide +kernel
theorem dX12_neverHeld_2 : decode cX12_neverHeld 2 = .ok (.putfield 77, 3) := by decide +kernel
theorem dX12_neverHeld_5 : decode cX12_neverHeld 5 = .ok (.aload_n 0, 1) := by decide +kernel
theorem dX12_neverHeld_6 : decode cX12_neverHeld 6 = .ok (.iload_n 1, 1) := by decide +kernel
theorem dX12_neverHeld_7 : decode cX12_neverHeld 7 = .ok (.invokevirtual 99, 3) := by decide +kernel
theorem dX12_neverHeld_10 : decode cX12_neverHeld 10 = .ok (.ifCond .ne 5, 3) := by decide +kernel
theorem dX12_neverHeld_13 : decode cX12_neverHeld 13 = .ok (.iconst (-1), 1) := by decide +kernel
theorem dX12_neverHeld_14 : decode cX12_neverHeld 14 = .ok (.ireturn, 1) := by decide +kernel
theorem dX12_neverHeld_15 : decode cX12_neverHeld 15 = .ok (.aload_n 0, 1) := by decide +kernel
theorem dX12_neverHeld_16 : decode cX12_neverHeld 16 = .ok (.iload_n 1, 1) := by decide +kernel
theorem dX12_neverHeld_17 : decode cX12_neverHeld 17 = .ok (.iconst 1, 1) := by decide +kernel
theorem dX12_neverHeld_18 : decode cX12_neverHeld 18 = .ok (.invokevirtual 244, 3) := by decide +kernel
theorem dX12_neverHeld_21 : decode cX12_neverHeld 21 = .ok (.aload_n 0, 1) := by decide +kernel
theorem dX12_neverHeld_22 : decode cX12_neverHeld 22 = .ok (.iload_n 1, 1) := by decide +kernel
theorem dX12_neverHeld_23 : decode cX12_neverHeld 23 = .ok (.aload_n 0, 1) := by decide +kernel
theorem dX12_neverHeld_24 : decode cX12_neverHeld 24 = .ok (.getfield 16, 3) := by decide +kernel
theorem dX12_neverHeld_27 : decode cX12_neverHeld 27 = .ok (.iload_n 1, 1) := by decide +kernel
theorem dX12_neverHeld_28 : decode cX12_neverHeld 28 = .ok (.iaload, 1) := by decide +kernel
theorem dX12_neverHeld_29 : decode cX12_neverHeld 29 = .ok (.invokevirtual 247, 3) := by decide +kernel
theorem dX12_neverHeld_32 : decode cX12_neverHeld 32 = .ok (.ireturn, 1) := by decide +kernel
theorem dX12_keepStage_0 : decode cX12_keepStage 0 = .ok (.aload_n 0, 1) := by decide +kernel
theorem dX12_keepStage_1 : decode cX12_keepStage 1 = .ok (.aload_n 0, 1) := by decide +kernel
theorem dX12_keepStage_2 : decode cX12_keepStage 2 = .ok (.getfield 65, 3) := by decide +kernel
theorem dX12_keepStage_5 : decode cX12_keepStage 5 = .ok (.iconst 1, 1) := by decide +kernel
theorem dX12_keepStage_6 : decode cX12_keepStage 6 = .ok (.invokevirtual 216, 3) := by decide +kernel
theorem dX12_keepStage_9 : decode cX12_keepStage 9 = .ok (.iconst 0, 1) := by decide +kernel
theorem dX12_keepStage_10 : decode cX12_keepStage 10 = .ok (.istore_n 2, 1) := by decide +kernel
theorem dX12_keepStage_11 : decode cX12_keepStage 11 = .ok (.iload_n 2, 1) := by decide +kernel
theorem dX12_keepStage_12 : decode cX12_keepStage 12 = .ok (.bipush 32, 2) := by decide +kernel
theorem dX12_keepStage_14 : decode cX12_keepStage 14 = .ok (.if_icmp .ge 26, 3) := by decide +kernel
theorem dX12_keepStage_17 : decode cX12_keepStage 17 = .ok (.aload_n 0, 1) := by decide +kernel
theorem dX12_keepStage_18 : decode cX12_keepStage 18 = .ok (.getfield 62, 3) := by decide +kernel
theorem dX12_keepStage_21 : decode cX12_keepStage 21 = .ok (.bipush 32, 2) := by decide +kernel
theorem dX12_keepStage_23 : decode cX12_keepStage 23 = .ok (.iload_n 1, 1) := by decide +kernel
theorem dX12_keepStage_24 : decode cX12_keepStage 24 = .ok (.imul, 1) := by decide +kernel
theorem dX12_keepStage_25 : decode cX12_keepStage 25 = .ok (.iload_n 2, 1) := by decide +kernel
theorem dX12_keepStage_26 : decode cX12_keepStage 26 = .ok (.iadd, 1) := by decide +kernel
theorem dX12_keepStage_27 : decode cX12_keepStage 27 = .ok (.aload_n 0, 1) := by decide +kernel
theorem dX12_keepStage_28 : decode cX12_keepStage 28 = .ok (.getfield 65, 3) := by decide +kernel
theorem dX12_keepStage_31 : decode cX12_keepStage 31 = .ok (.iload_n 2, 1) := by decide +kernel
theorem dX12_keepStage_32 : decode cX12_keepStage 32 = .ok (.iaload, 1) := by decide +kernel
theorem dX12_keepStage_33 : decode cX12_keepStage 33 = .ok (.iastore, 1) := by decide +kernel
theorem dX12_keepStage_34 : decode cX12_keepStage 34 = .ok (.iinc 2 1, 3) := by decide +kernel
theorem dX12_keepStage_37 : decode cX12_keepStage 37 = .ok (.goto (-26), 3) := by decide +kernel
theorem dX12_keepStage_40 : decode cX12_keepStage 40 = .ok (.return_, 1) := by decide +kernel
theorem dX12_toStage_0 : decode cX12_toStage 0 = .ok (.iconst 0, 1) := by decide +kernel
theorem dX12_toStage_1 : decode cX12_toStage 1 = .ok (.istore_n 2, 1) := by decide +kernel
theorem dX12_toStage_2 : decode cX12_toStage 2 = .ok (.iload_n 2, 1) := by decide +kernel
theorem dX12_toStage_3 : decode cX12_toStage 3 = .ok (.bipush 32, 2) := by decide +kernel
theorem dX12_toStage_5 : decode cX12_toStage 5 = .ok (.if_icmp .ge 26, 3) := by decide +kernel
theorem dX12_toStage_8 : decode cX12_toStage 8 = .ok (.aload_n 0, 1) := by decide +kernel
theorem dX12_toStage_9 : decode cX12_toStage 9 = .ok (.getfield 65, 3) := by decide +kernel
theorem dX12_toStage_12 : decode cX12_toStage 12 = .ok (.iload_n 2, 1) := by decide +kernel
theorem dX12_toStage_13 : decode cX12_toStage 13 = .ok (.aload_n 0, 1) := by decide +kernel
theorem dX12_toStage_14 : decode cX12_toStage 14 = .ok (.getfield 62, 3) := by decide +kernel
theorem dX12_toStage_17 : decode cX12_toStage 17 = .ok (.bipush 32, 2) := by decide +kernel
theorem dX12_toStage_19 : decode cX12_toStage 19 = .ok (.iload_n 1, 1) := by decide +kernel
theorem dX12_toStage_20 : decode cX12_toStage 20 = .ok (.imul, 1) := by decide +kernel
theorem dX12_toStage_21 : decode cX12_toStage 21 = .ok (.iload_n 2, 1) := by decide +kernel
theorem dX12_toStage_22 : decode cX12_toStage 22 = .ok (.iadd, 1) := by decide +kernel
theorem dX12_toStage_23 : decode cX12_toStage 23 = .ok (.iaload, 1) := by decide +kernel
theorem dX12_toStage_24 : decode cX12_toStage 24 = .ok (.iastore, 1) := by decide +kernel
theorem dX12_toStage_25 : decode cX12_toStage 25 = .ok (.iinc 2 1, 3) := by decide +kernel
theorem dX12_toStage_28 : decode cX12_toStage 28 = .ok (.goto (-26), 3) := by decide +kernel
theorem dX12_toStage_31 : decode cX12_toStage 31 = .ok (.aload_n 0, 1) := by decide +kernel
theorem dX12_toStage_32 : decode cX12_toStage 32 = .ok (.aload_n 0, 1) := by decide +kernel
theorem dX12_toStage_33 : decode cX12_toStage 33 = .ok (.getfield 65, 3) := by decide +kernel
theorem dX12_toStage_36 : decode cX12_toStage 36 = .ok (.iconst 0, 1) := by decide +kernel
theorem dX12_toStage_37 : decode cX12_toStage 37 = .ok (.invokevirtual 216, 3) := by decide +kernel
theorem dX12_toStage_40 : decode cX12_toStage 40 = .ok (.return_, 1) := by decide +kernel
theorem dX12_nextChoice_0 : decode cX12_nextChoice 0 = .ok (.iload_n 1, 1) := by decide +kernel
theorem dX12_nextChoice_1 : decode cX12_nextChoice 1 = .ok (.istore_n 2, 1) := by decide +kernel
theorem dX12_nextChoice_2 : decode cX12_nextChoice 2 = .ok (.iload_n 2, 1) := by decide +kernel
theorem dX12_nextChoice_3 : decode cX12_nextChoice 3 = .ok (.iconst 3, 1) := by decide +kernel
theorem dX12_nextChoice_4 : decode cX12_nextChoice 4 = .ok (.aload_n 0, 1) := by decide +kernel
theorem dX12_nextChoice_5 : decode cX12_nextChoice 5 = .ok (.getfield 81, 3) := by decide +kernel
theorem dX12_nextChoice_8 : decode cX12_nextChoice 8 = .ok (.imul, 1) := by decide +kernel
theorem dX12_nextChoice_9 : decode cX12_nextChoice 9 = .ok (.if_icmp .ge 22, 3) := by decide +kernel
theorem dX12_nextChoice_12 : decode cX12_nextChoice 12 = .ok (.aload_n 0, 1) := by decide +kernel
theorem dX12_nextChoice_13 : decode cX12_nextChoice 13 = .ok (.getfield 19, 3) := by decide +kernel
theorem dX12_nextChoice_16 : decode cX12_nextChoice 16 = .ok (.iload_n 2, 1) := by decide +kernel
theorem dX12_nextChoice_17 : decode cX12_nextChoice 17 = .ok (.iconst 3, 1) := by decide +kernel
theorem dX12_nextChoice_18 : decode cX12_nextChoice 18 = .ok (.idiv, 1) := by decide +kernel
theorem dX12_nextChoice_19 : decode cX12_nextChoice 19 = .ok (.iaload, 1) := by decide +kernel
theorem dX12_nextChoice_20 : decode cX12_nextChoice 20 = .ok (.bipush 7, 2) := by decide +kernel
theorem dX12_nextChoice_22 : decode cX12_nextChoice 22 = .ok (.if_icmp .ne 9, 3) := by decide +kernel
theorem dX12_nextChoice_25 : decode cX12_nextChoice 25 = .ok (.iinc 2 1, 3) := by decide +kernel
theorem dX12_nextChoice_28 : decode cX12_nextChoice 28 = .ok (.goto (-26), 3) := by decide +kernel
theorem dX12_nextChoice_31 : decode cX12_nextChoice 31 = .ok (.iload_n 2, 1) := by decide +kernel
theorem dX12_nextChoice_32 : decode cX12_nextChoice 32 = .ok (.iconst 3, 1) := by decide +kernel
theorem dX12_nextChoice_33 : decode cX12_nextChoice 33 = .ok (.aload_n 0, 1) := by decide +kernel
theorem dX12_nextChoice_34 : decode cX12_nextChoice 34 = .ok (.getfield 81, 3) := by decide +kernel
theorem dX12_nextChoice_37 : decode cX12_nextChoice 37 = .ok (.imul, 1) := by decide +kernel
theorem dX12_nextChoice_38 : decode cX12_nextChoice 38 = .ok (.if_icmp .ge 7, 3) := by decide +kernel
theorem dX12_nextChoice_41 : decode cX12_nextChoice 41 = .ok (.iload_n 2, 1) := by decide +kernel
theorem dX12_nextChoice_42 : decode cX12_nextChoice 42 = .ok (.goto 5, 3) := by decide +kernel
theorem dX12_nextChoice_45 : decode cX12_nextChoice 45 = .ok (.bipush (-4), 2) := by decide +kernel
theorem dX12_nextChoice_47 : decode cX12_nextChoice 47 = .ok (.ireturn, 1) := by decide +kernel
theorem dX12_layMost_0 : decode cX12_layMost 0 = .ok (.aload_n 0, 1) := by decide +kernel
theorem dX12_layMost_1 : decode cX12_layMost 1 = .ok (.iconst (-1), 1) := by decide +kernel
theorem dX12_layMost_2 : decode cX12_layMost 2 = .ok (.putfield 253, 3) := by decide +kernel
theorem dX12_layMost_5 : decode cX12_layMost 5 = .ok (.aload_n 0, 1) := by decide +kernel
theorem dX12_layMost_6 : decode cX12_layMost 6 = .ok (.bipush (-4), 2) := by decide +kernel
theorem dX12_layMost_8 : decode cX12_layMost 8 = .ok (.putfield 256, 3) := by decide +kernel
theorem dX12_layMost_11 : decode cX12_layMost 11 = .ok (.iconst 0, 1) := by decide +kernel
theorem dX12_layMost_12 : decode cX12_layMost 12 = .ok (.istore_n 2, 1) := by decide +kernel
theorem dX12_layMost_13 : decode cX12_layMost 13 = .ok (.aload_n 0, 1) := by decide +kernel
theorem dX12_layMost_14 : decode cX12_layMost 14 = .ok (.iconst 0, 1) := by decide +kernel
theorem dX12_layMost_15 : decode cX12_layMost 15 = .ok (.invokevirtual 259, 3) := by decide +kernel
theorem dX12_layMost_18 : decode cX12_layMost 18 = .ok (.aload_n 0, 1) := by decide +kernel
theorem dX12_layMost_19 : decode cX12_layMost 19 = .ok (.getfield 68, 3) := by decide +kernel
theorem dX12_layMost_22 : decode cX12_layMost 22 = .ok (.iconst 0, 1) := by decide +kernel
theorem dX12_layMost_23 : decode cX12_layMost 23 = .ok (.iconst (-1), 1) := by decide +kernel
theorem dX12_layMost_24 : decode cX12_layMost 24 = .ok (.iastore, 1) := by decide +kernel
theorem dX12_layMost_25 : decode cX12_layMost 25 = .ok (.iload_n 1, 1) := by decide +kernel
theorem dX12_layMost_26 : decode cX12_layMost 26 = .ok (.ifCond .eq 11, 3) := by decide +kernel
theorem dX12_layMost_29 : decode cX12_layMost 29 = .ok (.aload_n 0, 1) := by decide +kernel
theorem dX12_layMost_30 : decode cX12_layMost 30 = .ok (.iconst 0, 1) := by decide +kernel
theorem dX12_layMost_31 : decode cX12_layMost 31 = .ok (.invokevirtual 262, 3) := by decide +kernel
theorem dX12_layMost_34 : decode cX12_layMost 34 = .ok (.ifCond .ge 12, 3) := by decide +kernel
theorem dX12_layMost_37 : decode cX12_layMost 37 = .ok (.aload_n 0, 1) := by decide +kernel
theorem dX12_layMost_38 : decode cX12_layMost 38 = .ok (.aload_n 0, 1) := by decide +kernel
theorem dX12_layMost_39 : decode cX12_layMost 39 = .ok (.invokevirtual 234, 3) := by decide +kernel
theorem dX12_layMost_42 : decode cX12_layMost 42 = .ok (.putfield 253, 3) := by decide +kernel
theorem dX12_layMost_45 : decode cX12_layMost 45 = .ok (.return_, 1) := by decide +kernel
theorem dX12_layMost_46 : decode cX12_layMost 46 = .ok (.iload_n 2, 1) := by decide +kernel
theorem dX12_layMost_47 : decode cX12_layMost 47 = .ok (.ifCond .lt 127, 3) := by decide +kernel
theorem dX12_layMost_50 : decode cX12_layMost 50 = .ok (.aload_n 0, 1) := by decide +kernel
theorem dX12_layMost_51 : decode cX12_layMost 51 = .ok (.iload_n 2, 1) := by decide +kernel
theorem dX12_layMost_52 : decode cX12_layMost 52 = .ok (.invokevirtual 265, 3) := by decide +kernel
theorem dX12_layMost_55 : decode cX12_layMost 55 = .ok (.aload_n 0, 1) := by decide +kernel
theorem dX12_layMost_56 : decode cX12_layMost 56 = .ok (.aload_n 0, 1) := by decide +kernel
theorem dX12_layMost_57 : decode cX12_layMost 57 = .ok (.getfield 68, 3) := by decide +kernel
theorem dX12_layMost_60 : decode cX12_layMost 60 = .ok (.iload_n 2, 1) := by decide +kernel
theorem dX12_layMost_61 : decode cX12_layMost 61 = .ok (.iaload, 1) := by decide +kernel
theorem dX12_layMost_62 : decode cX12_layMost 62 = .ok (.iconst 1, 1) := by decide +kernel
theorem dX12_layMost_63 : decode cX12_layMost 63 = .ok (.iadd, 1) := by decide +kernel
theorem dX12_layMost_64 : decode cX12_layMost 64 = .ok (.invokevirtual 262, 3) := by decide +kernel
theorem dX12_layMost_67 : decode cX12_layMost 67 = .ok (.istore_n 3, 1) := by decide +kernel
theorem dX12_layMost_68 : decode cX12_layMost 68 = .ok (.aload_n 0, 1) := by decide +kernel
theorem dX12_layMost_69 : decode cX12_layMost 69 = .ok (.getfield 68, 3) := by decide +kernel
theorem dX12_layMost_72 : decode cX12_layMost 72 = .ok (.iload_n 2, 1) := by decide +kernel
theorem dX12_layMost_73 : decode cX12_layMost 73 = .ok (.iload_n 3, 1) := by decide +kernel
theorem dX12_layMost_74 : decode cX12_layMost 74 = .ok (.iastore, 1) := by decide +kernel
theorem dX12_layMost_75 : decode cX12_layMost 75 = .ok (.iload_n 3, 1) := by decide +kernel
theorem dX12_layMost_76 : decode cX12_layMost 76 = .ok (.ifCond .ge 9, 3) := by decide +kernel
theorem dX12_layMost_79 : decode cX12_layMost 79 = .ok (.iinc 2 (-1), 3) := by decide +kernel
theorem dX12_layMost_82 : decode cX12_layMost 82 = .ok (.goto 89, 3) := by decide +kernel
theorem dX12_layMost_85 : decode cX12_layMost 85 = .ok (.aload_n 0, 1) := by decide +kernel
theorem dX12_layMost_86 : decode cX12_layMost 86 = .ok (.iload_n 3, 1) := by decide +kernel
theorem dX12_layMost_87 : decode cX12_layMost 87 = .ok (.iconst 3, 1) := by decide +kernel
theorem dX12_layMost_88 : decode cX12_layMost 88 = .ok (.idiv, 1) := by decide +kernel
theorem dX12_layMost_89 : decode cX12_layMost 89 = .ok (.iload_n 3, 1) := by decide +kernel
theorem dX12_layMost_90 : decode cX12_layMost 90 = .ok (.iconst 3, 1) := by decide +kernel
theorem dX12_layMost_91 : decode cX12_layMost 91 = .ok (.irem, 1) := by decide +kernel
theorem dX12_layMost_92 : decode cX12_layMost 92 = .ok (.invokevirtual 168, 3) := by decide +kernel
theorem dX12_layMost_95 : decode cX12_layMost 95 = .ok (.iload_n 2, 1) := by decide +kernel
theorem dX12_layMost_96 : decode cX12_layMost 96 = .ok (.iconst 1, 1) := by decide +kernel
theorem dX12_layMost_97 : decode cX12_layMost 97 = .ok (.iadd, 1) := by decide +kernel
theorem dX12_layMost_98 : decode cX12_layMost 98 = .ok (.iload_n 1, 1) := by decide +kernel
theorem dX12_layMost_99 : decode cX12_layMost 99 = .ok (.if_icmp .ge 29, 3) := by decide +kernel
theorem dX12_layMost_102 : decode cX12_layMost 102 = .ok (.aload_n 0, 1) := by decide +kernel
theorem dX12_layMost_103 : decode cX12_layMost 103 = .ok (.iconst 0, 1) := by decide +kernel
theorem dX12_layMost_104 : decode cX12_layMost 104 = .ok (.invokevirtual 262, 3) := by decide +kernel
theorem dX12_layMost_107 : decode cX12_layMost 107 = .ok (.ifCond .lt 21, 3) := by decide +kernel
theorem dX12_layMost_110 : decode cX12_layMost 110 = .ok (.iinc 2 1, 3) := by decide +kernel
theorem dX12_layMost_113 : decode cX12_layMost 113 = .ok (.aload_n 0, 1) := by decide +kernel
theorem dX12_layMost_114 : decode cX12_layMost 114 = .ok (.iload_n 2, 1) := by decide +kernel
theorem dX12_layMost_115 : decode cX12_layMost 115 = .ok (.invokevirtual 259, 3) := by decide +kernel
theorem dX12_layMost_118 : decode cX12_layMost 118 = .ok (.aload_n 0, 1) := by decide +kernel
theorem dX12_layMost_119 : decode cX12_layMost 119 = .ok (.getfield 68, 3) := by decide +kernel
theorem dX12_layMost_122 : decode cX12_layMost 122 = .ok (.iload_n 2, 1) := by decide +kernel
theorem dX12_layMost_123 : decode cX12_layMost 123 = .ok (.iconst (-1), 1) := by decide +kernel
theorem dX12_layMost_124 : decode cX12_layMost 124 = .ok (.iastore, 1) := by decide +kernel
theorem dX12_layMost_125 : decode cX12_layMost 125 = .ok (.goto 46, 3) := by decide +kernel
theorem dX12_layMost_128 : decode cX12_layMost 128 = .ok (.aload_n 0, 1) := by decide +kernel
theorem dX12_layMost_129 : decode cX12_layMost 129 = .ok (.invokevirtual 234, 3) := by decide +kernel
theorem dX12_layMost_132 : decode cX12_layMost 132 = .ok (.aload_n 0, 1) := by decide +kernel
theorem dX12_layMost_133 : decode cX12_layMost 133 = .ok (.getfield 253, 3) := by decide +kernel
theorem dX12_layMost_136 : decode cX12_layMost 136 = .ok (.if_icmp .le 35, 3) := by decide +kernel
theorem dX12_layMost_139 : decode cX12_layMost 139 = .ok (.aload_n 0, 1) := by decide +kernel
theorem dX12_layMost_140 : decode cX12_layMost 140 = .ok (.aload_n 0, 1) := by decide +kernel
theorem dX12_layMost_141 : decode cX12_layMost 141 = .ok (.invokevirtual 234, 3) := by decide +kernel
theorem dX12_layMost_144 : decode cX12_layMost 144 = .ok (.putfield 253, 3) := by decide +kernel
theorem dX12_layMost_147 : decode cX12_layMost 147 = .ok (.aload_n 0, 1) := by decide +kernel
theorem dX12_layMost_148 : decode cX12_layMost 148 = .ok (.bipush 10, 2) := by decide +kernel
theorem dX12_layMost_150 : decode cX12_layMost 150 = .ok (.aload_n 0, 1) := by decide +kernel
theorem dX12_layMost_151 : decode cX12_layMost 151 = .ok (.getfield 68, 3) := by decide +kernel
theorem dX12_layMost_154 : decode cX12_layMost 154 = .ok (.iconst 0, 1) := by decide +kernel
theorem dX12_layMost_155 : decode cX12_layMost 155 = .ok (.iaload, 1) := by decide +kernel
theorem dX12_layMost_156 : decode cX12_layMost 156 = .ok (.iconst 3, 1) := by decide +kernel
theorem dX12_layMost_157 : decode cX12_layMost 157 = .ok (.idiv, 1) := by decide +kernel
theorem dX12_layMost_158 : decode cX12_layMost 158 = .ok (.imul, 1) := by decide +kernel
theorem dX12_layMost_159 : decode cX12_layMost 159 = .ok (.aload_n 0, 1) := by decide +kernel
theorem dX12_layMost_160 : decode cX12_layMost 160 = .ok (.getfield 68, 3) := by decide +kernel
theorem dX12_layMost_163 : decode cX12_layMost 163 = .ok (.iconst 0, 1) := by decide +kernel
theorem dX12_layMost_164 : decode cX12_layMost 164 = .ok (.iaload, 1) := by decide +kernel
theorem dX12_layMost_165 : decode cX12_layMost 165 = .ok (.iconst 3, 1) := by decide +kernel
theorem dX12_layMost_166 : decode cX12_layMost 166 = .ok (.irem, 1) := by decide +kernel
theorem dX12_layMost_167 : decode cX12_layMost 167 = .ok (.iadd, 1) := by decide +kernel
theorem dX12_layMost_168 : decode cX12_layMost 168 = .ok (.putfield 256, 3) := by decide +kernel
theorem dX12_layMost_171 : decode cX12_layMost 171 = .ok (.goto (-125), 3) := by decide +kernel
theorem dX12_layMost_174 : decode cX12_layMost 174 = .ok (.aload_n 0, 1) := by decide +kernel
theorem dX12_layMost_175 : decode cX12_layMost 175 = .ok (.iconst 0, 1) := by decide +kernel
theorem dX12_layMost_176 : decode cX12_layMost 176 = .ok (.invokevirtual 265, 3) := by decide +kernel
theorem dX12_layMost_179 : decode cX12_layMost 179 = .ok (.return_, 1) := by decide +kernel
theorem dX12_mostSteps_0 : decode cX12_mostSteps 0 = .ok (.aload_n 0, 1) := by decide +kernel
theorem dX12_mostSteps_1 : decode cX12_mostSteps 1 = .ok (.iconst 0, 1) := by decide +kernel
theorem dX12_mostSteps_2 : decode cX12_mostSteps 2 = .ok (.putfield 77, 3) := by decide +kernel
theorem dX12_mostSteps_5 : decode cX12_mostSteps 5 = .ok (.iload_n 1, 1) := by decide +kernel
theorem dX12_mostSteps_6 : decode cX12_mostSteps 6 = .ok (.i2l, 1) := by decide +kernel
theorem dX12_mostSteps_7 : decode cX12_mostSteps 7 = .ok (.lconst 0, 1) := by decide +kernel
theorem dX12_mostSteps_8 : decode cX12_mostSteps 8 = .ok (.ldc2_w 230, 3) := by decide +kernel
theorem dX12_mostSteps_11 : decode cX12_mostSteps 11 = .ok (.invokestatic 84, 3) := by decide +kernel
theorem dX12_mostSteps_14 : decode cX12_mostSteps 14 = .ok (.ifCond .eq 13, 3) := by decide +kernel
theorem dX12_mostSteps_17 : decode cX12_mostSteps 17 = .ok (.iload_n 2, 1) := by decide +kernel
theorem dX12_mostSteps_18 : decode cX12_mostSteps 18 = .ok (.i2l, 1) := by decide +kernel
theorem dX12_mostSteps_19 : decode cX12_mostSteps 19 = .ok (.lconst 0, 1) := by decide +kernel
theorem dX12_mostSteps_20 : decode cX12_mostSteps 20 = .ok (.lconst 1, 1) := by decide +kernel
theorem dX12_mostSteps_21 : decode cX12_mostSteps 21 = .ok (.invokestatic 84, 3) := by decide +kernel
theorem dX12_mostSteps_24 : decode cX12_mostSteps 24 = .ok (.ifCond .ne 5, 3) := by decide +kernel
theorem dX12_mostSteps_27 : decode cX12_mostSteps 27 = .ok (.iconst (-1), 1) := by decide +kernel
theorem dX12_mostSteps_28 : decode cX12_mostSteps 28 = .ok (.ireturn, 1) := by decide +kernel
theorem dX12_mostSteps_29 : decode cX12_mostSteps 29 = .ok (.aload_n 0, 1) := by decide +kernel
theorem dX12_mostSteps_30 : decode cX12_mostSteps 30 = .ok (.iload_n 1, 1) := by decide +kernel
theorem dX12_mostSteps_31 : decode cX12_mostSteps 31 = .ok (.invokevirtual 268, 3) := by decide +kernel
theorem dX12_mostSteps_34 : decode cX12_mostSteps 34 = .ok (.iload_n 2, 1) := by decide +kernel
theorem dX12_mostSteps_35 : decode cX12_mostSteps 35 = .ok (.ifCond .ne 10, 3) := by decide +kernel
theorem dX12_mostSteps_38 : decode cX12_mostSteps 38 = .ok (.aload_n 0, 1) := by decide +kernel
theorem dX12_mostSteps_39 : decode cX12_mostSteps 39 = .ok (.getfield 253, 3) := by decide +kernel
theorem dX12_mostSteps_42 : decode cX12_mostSteps 42 = .ok (.goto 7, 3) := by decide +kernel
theorem dX12_mostSteps_45 : decode cX12_mostSteps 45 = .ok (.aload_n 0, 1) := by decide +kernel
theorem dX12_mostSteps_46 : decode cX12_mostSteps 46 = .ok (.getfield 256, 3) := by decide +kernel
theorem dX12_mostSteps_49 : decode cX12_mostSteps 49 = .ok (.ireturn, 1) := by decide +kernel
theorem dX12_nextTurn_0 : decode cX12_nextTurn 0 = .ok (.iconst 0, 1) := by decide +kernel
theorem dX12_nextTurn_1 : decode cX12_nextTurn 1 = .ok (.istore_n 1, 1) := by decide +kernel
theorem dX12_nextTurn_2 : decode cX12_nextTurn 2 = .ok (.iload_n 1, 1) := by decide +kernel
theorem dX12_nextTurn_3 : decode cX12_nextTurn 3 = .ok (.aload_n 0, 1) := by decide +kernel
theorem dX12_nextTurn_4 : decode cX12_nextTurn 4 = .ok (.getfield 81, 3) := by decide +kernel
theorem dX12_nextTurn_7 : decode cX12_nextTurn 7 = .ok (.if_icmp .ge 69, 3) := by decide +kernel
theorem dX12_nextTurn_10 : decode cX12_nextTurn 10 = .ok (.aload_n 0, 1) := by decide +kernel
theorem dX12_nextTurn_11 : decode cX12_nextTurn 11 = .ok (.getfield 271, 3) := by decide +kernel
theorem dX12_nextTurn_14 : decode cX12_nextTurn 14 = .ok (.iload_n 1, 1) := by decide +kernel
theorem dX12_nextTurn_15 : decode cX12_nextTurn 15 = .ok (.iadd, 1) := by decide +kernel
theorem dX12_nextTurn_16 : decode cX12_nextTurn 16 = .ok (.aload_n 0, 1) := by decide +kernel
theorem dX12_nextTurn_17 : decode cX12_nextTurn 17 = .ok (.getfield 81, 3) := by decide +kernel
theorem dX12_nextTurn_20 : decode cX12_nextTurn 20 = .ok (.irem, 1) := by decide +kernel
theorem dX12_nextTurn_21 : decode cX12_nextTurn 21 = .ok (.istore_n 2, 1) := by decide +kernel
theorem dX12_nextTurn_22 : decode cX12_nextTurn 22 = .ok (.aload_n 0, 1) := by decide +kernel
theorem dX12_nextTurn_23 : decode cX12_nextTurn 23 = .ok (.getfield 19, 3) := by decide +kernel
theorem dX12_nextTurn_26 : decode cX12_nextTurn 26 = .ok (.iload_n 2, 1) := by decide +kernel
theorem dX12_nextTurn_27 : decode cX12_nextTurn 27 = .ok (.iaload, 1) := by decide +kernel
theorem dX12_nextTurn_28 : decode cX12_nextTurn 28 = .ok (.bipush 7, 2) := by decide +kernel
theorem dX12_nextTurn_30 : decode cX12_nextTurn 30 = .ok (.if_icmp .ge 40, 3) := by decide +kernel
theorem dX12_nextTurn_33 : decode cX12_nextTurn 33 = .ok (.aload_n 0, 1) := by decide +kernel
theorem dX12_nextTurn_34 : decode cX12_nextTurn 34 = .ok (.iload_n 2, 1) := by decide +kernel
theorem dX12_nextTurn_35 : decode cX12_nextTurn 35 = .ok (.invokevirtual 109, 3) := by decide +kernel
theorem dX12_nextTurn_38 : decode cX12_nextTurn 38 = .ok (.istore_n 3, 1) := by decide +kernel
theorem dX12_nextTurn_39 : decode cX12_nextTurn 39 = .ok (.aload_n 0, 1) := by decide +kernel
theorem dX12_nextTurn_40 : decode cX12_nextTurn 40 = .ok (.iload_n 2, 1) := by decide +kernel
theorem dX12_nextTurn_41 : decode cX12_nextTurn 41 = .ok (.iload_n 3, 1) := by decide +kernel
theorem dX12_nextTurn_42 : decode cX12_nextTurn 42 = .ok (.ifCond .eq 7, 3) := by decide +kernel
theorem dX12_nextTurn_45 : decode cX12_nextTurn 45 = .ok (.iconst 2, 1) := by decide +kernel
theorem dX12_nextTurn_46 : decode cX12_nextTurn 46 = .ok (.goto 4, 3) := by decide +kernel
theorem dX12_nextTurn_49 : decode cX12_nextTurn 49 = .ok (.iconst 0, 1) := by decide +kernel
theorem dX12_nextTurn_50 : decode cX12_nextTurn 50 = .ok (.invokevirtual 168, 3) := by decide +kernel
theorem dX12_nextTurn_53 : decode cX12_nextTurn 53 = .ok (.aload_n 0, 1) := by decide +kernel
theorem dX12_nextTurn_54 : decode cX12_nextTurn 54 = .ok (.iload_n 2, 1) := by decide +kernel
theorem dX12_nextTurn_55 : decode cX12_nextTurn 55 = .ok (.iconst 1, 1) := by decide +kernel
theorem dX12_nextTurn_56 : decode cX12_nextTurn 56 = .ok (.iadd, 1) := by decide +kernel
theorem dX12_nextTurn_57 : decode cX12_nextTurn 57 = .ok (.putfield 271, 3) := by decide +kernel
theorem dX12_nextTurn_60 : decode cX12_nextTurn 60 = .ok (.iload_n 3, 1) := by decide +kernel
theorem dX12_nextTurn_61 : decode cX12_nextTurn 61 = .ok (.ifCond .eq 7, 3) := by decide +kernel
theorem dX12_nextTurn_64 : decode cX12_nextTurn 64 = .ok (.iconst 0, 1) := by decide +kernel
theorem dX12_nextTurn_65 : decode cX12_nextTurn 65 = .ok (.goto 4, 3) := by decide +kernel
theorem dX12_nextTurn_68 : decode cX12_nextTurn 68 = .ok (.iconst 1, 1) := by decide +kernel
theorem dX12_nextTurn_69 : decode cX12_nextTurn 69 = .ok (.ireturn, 1) := by decide +kernel
theorem dX12_nextTurn_70 : decode cX12_nextTurn 70 = .ok (.iinc 1 1, 3) := by decide +kernel
theorem dX12_nextTurn_73 : decode cX12_nextTurn 73 = .ok (.goto (-71), 3) := by decide +kernel
theorem dX12_nextTurn_76 : decode cX12_nextTurn 76 = .ok (.bipush (-4), 2) := by decide +kernel
theorem dX12_nextTurn_78 : decode cX12_nextTurn 78 = .ok (.ireturn, 1) := by decide +kernel
theorem dX12_byTurns_0 : decode cX12_byTurns 0 = .ok (.aload_n 0, 1) := by decide +kernel
theorem dX12_byTurns_1 : decode cX12_byTurns 1 = .ok (.iconst 0, 1) := by decide +kernel
theorem dX12_byTurns_2 : decode cX12_byTurns 2 = .ok (.putfield 77, 3) := by decide +kernel
theorem dX12_byTurns_5 : decode cX12_byTurns 5 = .ok (.iload_n 1, 1) := by decide +kernel
theorem dX12_byTurns_6 : decode cX12_byTurns 6 = .ok (.i2l, 1) := by decide +kernel
theorem dX12_byTurns_7 : decode cX12_byTurns 7 = .ok (.lconst 0, 1) := by decide +kernel
theorem dX12_byTurns_8 : decode cX12_byTurns 8 = .ok (.ldc2_w 274, 3) := by decide +kernel
theorem dX12_byTurns_11 : decode cX12_byTurns 11 = .ok (.invokestatic 84, 3) := by decide +kernel
theorem dX12_byTurns_14 : decode cX12_byTurns 14 = .ok (.ifCond .eq 13, 3) := by decide +kernel
theorem dX12_byTurns_17 : decode cX12_byTurns 17 = .ok (.iload_n 2, 1) := by decide +kernel
theorem dX12_byTurns_18 : decode cX12_byTurns 18 = .ok (.i2l, 1) := by decide +kernel
theorem dX12_byTurns_19 : decode cX12_byTurns 19 = .ok (.lconst 0, 1) := by decide +kernel
theorem dX12_byTurns_20 : decode cX12_byTurns 20 = .ok (.lconst 1, 1) := by decide +kernel
theorem dX12_byTurns_21 : decode cX12_byTurns 21 = .ok (.invokestatic 84, 3) := by decide +kernel
theorem dX12_byTurns_24 : decode cX12_byTurns 24 = .ok (.ifCond .ne 5, 3) := by decide +kernel
theorem dX12_byTurns_27 : decode cX12_byTurns 27 = .ok (.iconst (-1), 1) := by decide +kernel
theorem dX12_byTurns_28 : decode cX12_byTurns 28 = .ok (.ireturn, 1) := by decide +kernel
theorem dX12_byTurns_29 : decode cX12_byTurns 29 = .ok (.iconst 0, 1) := by decide +kernel
theorem dX12_byTurns_30 : decode cX12_byTurns 30 = .ok (.istore_n 3, 1) := by decide +kernel
theorem dX12_byTurns_31 : decode cX12_byTurns 31 = .ok (.aload_n 0, 1) := by decide +kernel
theorem dX12_byTurns_32 : decode cX12_byTurns 32 = .ok (.iconst 0, 1) := by decide +kernel
theorem dX12_byTurns_33 : decode cX12_byTurns 33 = .ok (.putfield 271, 3) := by decide +kernel
theorem dX12_byTurns_36 : decode cX12_byTurns 36 = .ok (.aload_n 0, 1) := by decide +kernel
theorem dX12_byTurns_37 : decode cX12_byTurns 37 = .ok (.invokevirtual 195, 3) := by decide +kernel
theorem dX12_byTurns_40 : decode cX12_byTurns 40 = .ok (.iconst 0, 1) := by decide +kernel
theorem dX12_byTurns_41 : decode cX12_byTurns 41 = .ok (.istore 4, 2) := by decide +kernel
theorem dX12_byTurns_43 : decode cX12_byTurns 43 = .ok (.iload 4, 2) := by decide +kernel
theorem dX12_byTurns_45 : decode cX12_byTurns 45 = .ok (.iload_n 1, 1) := by decide +kernel
theorem dX12_byTurns_46 : decode cX12_byTurns 46 = .ok (.if_icmp .ge 25, 3) := by decide +kernel
theorem dX12_byTurns_49 : decode cX12_byTurns 49 = .ok (.iload_n 3, 1) := by decide +kernel
theorem dX12_byTurns_50 : decode cX12_byTurns 50 = .ok (.aload_n 0, 1) := by decide +kernel
theorem dX12_byTurns_51 : decode cX12_byTurns 51 = .ok (.invokevirtual 276, 3) := by decide +kernel
theorem dX12_byTurns_54 : decode cX12_byTurns 54 = .ok (.iconst 1, 1) := by decide +kernel
theorem dX12_byTurns_55 : decode cX12_byTurns 55 = .ok (.if_icmp .ne 7, 3) := by decide +kernel
theorem dX12_byTurns_58 : decode cX12_byTurns 58 = .ok (.iconst 1, 1) := by decide +kernel
theorem dX12_byTurns_59 : decode cX12_byTurns 59 = .ok (.goto 4, 3) := by decide +kernel
theorem dX12_byTurns_62 : decode cX12_byTurns 62 = .ok (.iconst 0, 1) := by decide +kernel
theorem dX12_byTurns_63 : decode cX12_byTurns 63 = .ok (.iadd, 1) := by decide +kernel
theorem dX12_byTurns_64 : decode cX12_byTurns 64 = .ok (.istore_n 3, 1) := by decide +kernel
theorem dX12_byTurns_65 : decode cX12_byTurns 65 = .ok (.iinc 4 1, 3) := by decide +kernel
theorem dX12_byTurns_68 : decode cX12_byTurns 68 = .ok (.goto (-25), 3) := by decide +kernel
theorem dX12_byTurns_71 : decode cX12_byTurns 71 = .ok (.aload_n 0, 1) := by decide +kernel
theorem dX12_byTurns_72 : decode cX12_byTurns 72 = .ok (.invokevirtual 279, 3) := by decide +kernel
theorem dX12_byTurns_75 : decode cX12_byTurns 75 = .ok (.invokestatic 282, 3) := by decide +kernel
theorem dX12_byTurns_78 : decode cX12_byTurns 78 = .ok (.istore 4, 2) := by decide +kernel
theorem dX12_byTurns_80 : decode cX12_byTurns 80 = .ok (.aload_n 0, 1) := by decide +kernel
theorem dX12_byTurns_81 : decode cX12_byTurns 81 = .ok (.invokevirtual 201, 3) := by decide +kernel
theorem dX12_byTurns_84 : decode cX12_byTurns 84 = .ok (.iload_n 2, 1) := by decide +kernel
theorem dX12_byTurns_85 : decode cX12_byTurns 85 = .ok (.ifCond .ne 8, 3) := by decide +kernel
theorem dX12_byTurns_88 : decode cX12_byTurns 88 = .ok (.iload 4, 2) := by decide +kernel
theorem dX12_byTurns_90 : decode cX12_byTurns 90 = .ok (.goto 4, 3) := by decide +kernel
theorem dX12_byTurns_93 : decode cX12_byTurns 93 = .ok (.iload_n 3, 1) := by decide +kernel
theorem dX12_byTurns_94 : decode cX12_byTurns 94 = .ok (.ireturn, 1) := by decide +kernel
theorem dX12_allSwim_0 : decode cX12_allSwim 0 = .ok (.aload_n 0, 1) := by decide +kernel
theorem dX12_allSwim_1 : decode cX12_allSwim 1 = .ok (.iconst 0, 1) := by decide +kernel
theorem dX12_allSwim_2 : decode cX12_allSwim 2 = .ok (.putfield 77, 3) := by decide +kernel
theorem dX12_allSwim_5 : decode cX12_allSwim 5 = .ok (.bipush (-4), 2) := by decide +kernel
theorem dX12_allSwim_7 : decode cX12_allSwim 7 = .ok (.istore_n 1, 1) := by decide +kernel
theorem dX12_allSwim_8 : decode cX12_allSwim 8 = .ok (.aload_n 0, 1) := by decide +kernel
theorem dX12_allSwim_9 : decode cX12_allSwim 9 = .ok (.iconst 0, 1) := by decide +kernel
theorem dX12_allSwim_10 : decode cX12_allSwim 10 = .ok (.putfield 271, 3) := by decide +kernel
theorem dX12_allSwim_13 : decode cX12_allSwim 13 = .ok (.aload_n 0, 1) := by decide +kernel
theorem dX12_allSwim_14 : decode cX12_allSwim 14 = .ok (.invokevirtual 195, 3) := by decide +kernel
theorem dX12_allSwim_17 : decode cX12_allSwim 17 = .ok (.iconst 0, 1) := by decide +kernel
theorem dX12_allSwim_18 : decode cX12_allSwim 18 = .ok (.istore_n 2, 1) := by decide +kernel
theorem dX12_allSwim_19 : decode cX12_allSwim 19 = .ok (.iload_n 2, 1) := by decide +kernel
theorem dX12_allSwim_20 : decode cX12_allSwim 20 = .ok (.bipush 99, 2) := by decide +kernel
theorem dX12_allSwim_22 : decode cX12_allSwim 22 = .ok (.if_icmp .gt 40, 3) := by decide +kernel
theorem dX12_allSwim_25 : decode cX12_allSwim 25 = .ok (.iload_n 1, 1) := by decide +kernel
theorem dX12_allSwim_26 : decode cX12_allSwim 26 = .ok (.ifCond .ge 36, 3) := by decide +kernel
theorem dX12_allSwim_29 : decode cX12_allSwim 29 = .ok (.aload_n 0, 1) := by decide +kernel
theorem dX12_allSwim_30 : decode cX12_allSwim 30 = .ok (.invokevirtual 279, 3) := by decide +kernel
theorem dX12_allSwim_33 : decode cX12_allSwim 33 = .ok (.iconst 1, 1) := by decide +kernel
theorem dX12_allSwim_34 : decode cX12_allSwim 34 = .ok (.aload_n 0, 1) := by decide +kernel
theorem dX12_allSwim_35 : decode cX12_allSwim 35 = .ok (.getfield 81, 3) := by decide +kernel
theorem dX12_allSwim_38 : decode cX12_allSwim 38 = .ok (.ishl, 1) := by decide +kernel
theorem dX12_allSwim_39 : decode cX12_allSwim 39 = .ok (.iconst 1, 1) := by decide +kernel
theorem dX12_allSwim_40 : decode cX12_allSwim 40 = .ok (.isub, 1) := by decide +kernel
theorem dX12_allSwim_41 : decode cX12_allSwim 41 = .ok (.if_icmp .ne 7, 3) := by decide +kernel
theorem dX12_allSwim_44 : decode cX12_allSwim 44 = .ok (.iload_n 2, 1) := by decide +kernel
theorem dX12_allSwim_45 : decode cX12_allSwim 45 = .ok (.goto 5, 3) := by decide +kernel
theorem dX12_allSwim_48 : decode cX12_allSwim 48 = .ok (.bipush (-4), 2) := by decide +kernel
theorem dX12_allSwim_50 : decode cX12_allSwim 50 = .ok (.istore_n 1, 1) := by decide +kernel
theorem dX12_allSwim_51 : decode cX12_allSwim 51 = .ok (.aload_n 0, 1) := by decide +kernel
theorem dX12_allSwim_52 : decode cX12_allSwim 52 = .ok (.invokevirtual 276, 3) := by decide +kernel
theorem dX12_allSwim_55 : decode cX12_allSwim 55 = .ok (.pop, 1) := by decide +kernel
theorem dX12_allSwim_56 : decode cX12_allSwim 56 = .ok (.iinc 2 1, 3) := by decide +kernel
theorem dX12_allSwim_59 : decode cX12_allSwim 59 = .ok (.goto (-40), 3) := by decide +kernel
theorem dX12_allSwim_62 : decode cX12_allSwim 62 = .ok (.aload_n 0, 1) := by decide +kernel
theorem dX12_allSwim_63 : decode cX12_allSwim 63 = .ok (.invokevirtual 201, 3) := by decide +kernel
theorem dX12_allSwim_66 : decode cX12_allSwim 66 = .ok (.iload_n 1, 1) := by decide +kernel
theorem dX12_allSwim_67 : decode cX12_allSwim 67 = .ok (.ireturn, 1) := by decide +kernel
theorem dX12_ordersOf_0 : decode cX12_ordersOf 0 = .ok (.iconst 1, 1) := by decide +kernel
theorem dX12_ordersOf_1 : decode cX12_ordersOf 1 = .ok (.istore_n 1, 1) := by decide +kernel
theorem dX12_ordersOf_2 : decode cX12_ordersOf 2 = .ok (.iconst 2, 1) := by decide +kernel
theorem dX12_ordersOf_3 : decode cX12_ordersOf 3 = .ok (.istore_n 2, 1) := by decide +kernel
theorem dX12_ordersOf_4 : decode cX12_ordersOf 4 = .ok (.iload_n 2, 1) := by decide +kernel
theorem dX12_ordersOf_5 : decode cX12_ordersOf 5 = .ok (.iload_n 0, 1) := by decide +kernel
theorem dX12_ordersOf_6 : decode cX12_ordersOf 6 = .ok (.if_icmp .gt 13, 3) := by decide +kernel
theorem dX12_ordersOf_9 : decode cX12_ordersOf 9 = .ok (.iload_n 1, 1) := by decide +kernel
theorem dX12_ordersOf_10 : decode cX12_ordersOf 10 = .ok (.iload_n 2, 1) := by decide +kernel
theorem dX12_ordersOf_11 : decode cX12_ordersOf 11 = .ok (.imul, 1) := by decide +kernel
theorem dX12_ordersOf_12 : decode cX12_ordersOf 12 = .ok (.istore_n 1, 1) := by decide +kernel
theorem dX12_ordersOf_13 : decode cX12_ordersOf 13 = .ok (.iinc 2 1, 3) := by decide +kernel
theorem dX12_ordersOf_16 : decode cX12_ordersOf 16 = .ok (.goto (-12), 3) := by decide +kernel
theorem dX12_ordersOf_19 : decode cX12_ordersOf 19 = .ok (.iload_n 1, 1) := by decide +kernel
theorem dX12_ordersOf_20 : decode cX12_ordersOf 20 = .ok (.ireturn, 1) := by decide +kernel
theorem dX12_layOrder_0 : decode cX12_layOrder 0 = .ok (.iload_n 1, 1) := by decide +kernel
theorem dX12_layOrder_1 : decode cX12_layOrder 1 = .ok (.istore_n 3, 1) := by decide +kernel
theorem dX12_layOrder_2 : decode cX12_layOrder 2 = .ok (.iconst 0, 1) := by decide +kernel
theorem dX12_layOrder_3 : decode cX12_layOrder 3 = .ok (.istore 4, 2) := by decide +kernel
theorem dX12_layOrder_5 : decode cX12_layOrder 5 = .ok (.iconst 0, 1) := by decide +kernel
theorem dX12_layOrder_6 : decode cX12_layOrder 6 = .ok (.istore 5, 2) := by decide +kernel
theorem dX12_layOrder_8 : decode cX12_layOrder 8 = .ok (.iload 5, 2) := by decide +kernel
theorem dX12_layOrder_10 : decode cX12_layOrder 10 = .ok (.iload_n 2, 1) := by decide +kernel
theorem dX12_layOrder_11 : decode cX12_layOrder 11 = .ok (.if_icmp .ge 93, 3) := by decide +kernel
theorem dX12_layOrder_14 : decode cX12_layOrder 14 = .ok (.iload_n 2, 1) := by decide +kernel
theorem dX12_layOrder_15 : decode cX12_layOrder 15 = .ok (.iconst 1, 1) := by decide +kernel
end
section
theorem dX12_layOrder_16 : decode cX12_layOrder 16 = .ok (.isub, 1) := by decide +kernel
theorem dX12_layOrder_17 : decode cX12_layOrder 17 = .ok (.iload 5, 2) := by decide +kernel
theorem dX12_layOrder_19 : decode cX12_layOrder 19 = .ok (.isub, 1) := by decide +kernel
theorem dX12_layOrder_20 : decode cX12_layOrder 20 = .ok (.invokestatic 285, 3) := by decide +kernel
theorem dX12_layOrder_23 : decode cX12_layOrder 23 = .ok (.istore 6, 2) := by decide +kernel
theorem dX12_layOrder_25 : decode cX12_layOrder 25 = .ok (.iload_n 3, 1) := by decide +kernel
theorem dX12_layOrder_26 : decode cX12_layOrder 26 = .ok (.iload 6, 2) := by decide +kernel
theorem dX12_layOrder_28 : decode cX12_layOrder 28 = .ok (.idiv, 1) := by decide +kernel
theorem dX12_layOrder_29 : decode cX12_layOrder 29 = .ok (.istore 7, 2) := by decide +kernel
theorem dX12_layOrder_31 : decode cX12_layOrder 31 = .ok (.iload_n 3, 1) := by decide +kernel
theorem dX12_layOrder_32 : decode cX12_layOrder 32 = .ok (.iload 6, 2) := by decide +kernel
theorem dX12_layOrder_34 : decode cX12_layOrder 34 = .ok (.irem, 1) := by decide +kernel
theorem dX12_layOrder_35 : decode cX12_layOrder 35 = .ok (.istore_n 3, 1) := by decide +kernel
theorem dX12_layOrder_36 : decode cX12_layOrder 36 = .ok (.iconst 0, 1) := by decide +kernel
theorem dX12_layOrder_37 : decode cX12_layOrder 37 = .ok (.istore 8, 2) := by decide +kernel
theorem dX12_layOrder_39 : decode cX12_layOrder 39 = .ok (.iload 4, 2) := by decide +kernel
theorem dX12_layOrder_41 : decode cX12_layOrder 41 = .ok (.iload 8, 2) := by decide +kernel
theorem dX12_layOrder_43 : decode cX12_layOrder 43 = .ok (.invokestatic 288, 3) := by decide +kernel
theorem dX12_layOrder_46 : decode cX12_layOrder 46 = .ok (.ifCond .ne 8, 3) := by decide +kernel
theorem dX12_layOrder_49 : decode cX12_layOrder 49 = .ok (.iload 7, 2) := by decide +kernel
theorem dX12_layOrder_51 : decode cX12_layOrder 51 = .ok (.ifCond .le 29, 3) := by decide +kernel
theorem dX12_layOrder_54 : decode cX12_layOrder 54 = .ok (.iload 7, 2) := by decide +kernel
theorem dX12_layOrder_56 : decode cX12_layOrder 56 = .ok (.iload 4, 2) := by decide +kernel
theorem dX12_layOrder_58 : decode cX12_layOrder 58 = .ok (.iload 8, 2) := by decide +kernel
theorem dX12_layOrder_60 : decode cX12_layOrder 60 = .ok (.invokestatic 288, 3) := by decide +kernel
theorem dX12_layOrder_63 : decode cX12_layOrder 63 = .ok (.ifCond .eq 7, 3) := by decide +kernel
theorem dX12_layOrder_66 : decode cX12_layOrder 66 = .ok (.iconst 0, 1) := by decide +kernel
theorem dX12_layOrder_67 : decode cX12_layOrder 67 = .ok (.goto 4, 3) := by decide +kernel
theorem dX12_layOrder_70 : decode cX12_layOrder 70 = .ok (.iconst 1, 1) := by decide +kernel
theorem dX12_layOrder_71 : decode cX12_layOrder 71 = .ok (.isub, 1) := by decide +kernel
theorem dX12_layOrder_72 : decode cX12_layOrder 72 = .ok (.istore 7, 2) := by decide +kernel
theorem dX12_layOrder_74 : decode cX12_layOrder 74 = .ok (.iinc 8 1, 3) := by decide +kernel
theorem dX12_layOrder_77 : decode cX12_layOrder 77 = .ok (.goto (-38), 3) := by decide +kernel
theorem dX12_layOrder_80 : decode cX12_layOrder 80 = .ok (.aload_n 0, 1) := by decide +kernel
theorem dX12_layOrder_81 : decode cX12_layOrder 81 = .ok (.getfield 71, 3) := by decide +kernel
theorem dX12_layOrder_84 : decode cX12_layOrder 84 = .ok (.iload 5, 2) := by decide +kernel
theorem dX12_layOrder_86 : decode cX12_layOrder 86 = .ok (.iload 8, 2) := by decide +kernel
theorem dX12_layOrder_88 : decode cX12_layOrder 88 = .ok (.iastore, 1) := by decide +kernel
theorem dX12_layOrder_89 : decode cX12_layOrder 89 = .ok (.iload 4, 2) := by decide +kernel
theorem dX12_layOrder_91 : decode cX12_layOrder 91 = .ok (.iconst 1, 1) := by decide +kernel
theorem dX12_layOrder_92 : decode cX12_layOrder 92 = .ok (.iload 8, 2) := by decide +kernel
theorem dX12_layOrder_94 : decode cX12_layOrder 94 = .ok (.ishl, 1) := by decide +kernel
theorem dX12_layOrder_95 : decode cX12_layOrder 95 = .ok (.ior, 1) := by decide +kernel
theorem dX12_layOrder_96 : decode cX12_layOrder 96 = .ok (.istore 4, 2) := by decide +kernel
theorem dX12_layOrder_98 : decode cX12_layOrder 98 = .ok (.iinc 5 1, 3) := by decide +kernel
theorem dX12_layOrder_101 : decode cX12_layOrder 101 = .ok (.goto (-93), 3) := by decide +kernel
theorem dX12_layOrder_104 : decode cX12_layOrder 104 = .ok (.return_, 1) := by decide +kernel
theorem dX12_beside_0 : decode cX12_beside 0 = .ok (.aload_n 0, 1) := by decide +kernel
theorem dX12_beside_1 : decode cX12_beside 1 = .ok (.iconst 0, 1) := by decide +kernel
theorem dX12_beside_2 : decode cX12_beside 2 = .ok (.putfield 77, 3) := by decide +kernel
theorem dX12_beside_5 : decode cX12_beside 5 = .ok (.iload_n 1, 1) := by decide +kernel
theorem dX12_beside_6 : decode cX12_beside 6 = .ok (.i2l, 1) := by decide +kernel
theorem dX12_beside_7 : decode cX12_beside 7 = .ok (.ldc2_w 291, 3) := by decide +kernel
theorem dX12_beside_10 : decode cX12_beside 10 = .ok (.aload_n 0, 1) := by decide +kernel
theorem dX12_beside_11 : decode cX12_beside 11 = .ok (.getfield 81, 3) := by decide +kernel
theorem dX12_beside_14 : decode cX12_beside 14 = .ok (.iconst 1, 1) := by decide +kernel
theorem dX12_beside_15 : decode cX12_beside 15 = .ok (.isub, 1) := by decide +kernel
theorem dX12_beside_16 : decode cX12_beside 16 = .ok (.i2l, 1) := by decide +kernel
theorem dX12_beside_17 : decode cX12_beside 17 = .ok (.invokestatic 84, 3) := by decide +kernel
theorem dX12_beside_20 : decode cX12_beside 20 = .ok (.ifCond .ne 5, 3) := by decide +kernel
theorem dX12_beside_23 : decode cX12_beside 23 = .ok (.iconst (-1), 1) := by decide +kernel
theorem dX12_beside_24 : decode cX12_beside 24 = .ok (.ireturn, 1) := by decide +kernel
theorem dX12_beside_25 : decode cX12_beside 25 = .ok (.iconst 0, 1) := by decide +kernel
theorem dX12_beside_26 : decode cX12_beside 26 = .ok (.istore_n 2, 1) := by decide +kernel
theorem dX12_beside_27 : decode cX12_beside 27 = .ok (.iconst (-1), 1) := by decide +kernel
theorem dX12_beside_28 : decode cX12_beside 28 = .ok (.istore_n 3, 1) := by decide +kernel
theorem dX12_beside_29 : decode cX12_beside 29 = .ok (.aload_n 0, 1) := by decide +kernel
theorem dX12_beside_30 : decode cX12_beside 30 = .ok (.getfield 81, 3) := by decide +kernel
theorem dX12_beside_33 : decode cX12_beside 33 = .ok (.invokestatic 285, 3) := by decide +kernel
theorem dX12_beside_36 : decode cX12_beside 36 = .ok (.istore 4, 2) := by decide +kernel
theorem dX12_beside_38 : decode cX12_beside 38 = .ok (.iconst 0, 1) := by decide +kernel
theorem dX12_beside_39 : decode cX12_beside 39 = .ok (.istore 5, 2) := by decide +kernel
theorem dX12_beside_41 : decode cX12_beside 41 = .ok (.iload 5, 2) := by decide +kernel
theorem dX12_beside_43 : decode cX12_beside 43 = .ok (.iload 4, 2) := by decide +kernel
theorem dX12_beside_45 : decode cX12_beside 45 = .ok (.if_icmp .ge 96, 3) := by decide +kernel
theorem dX12_beside_48 : decode cX12_beside 48 = .ok (.aload_n 0, 1) := by decide +kernel
theorem dX12_beside_49 : decode cX12_beside 49 = .ok (.iload 5, 2) := by decide +kernel
theorem dX12_beside_51 : decode cX12_beside 51 = .ok (.aload_n 0, 1) := by decide +kernel
theorem dX12_beside_52 : decode cX12_beside 52 = .ok (.getfield 81, 3) := by decide +kernel
theorem dX12_beside_55 : decode cX12_beside 55 = .ok (.invokevirtual 293, 3) := by decide +kernel
theorem dX12_beside_58 : decode cX12_beside 58 = .ok (.iconst 0, 1) := by decide +kernel
theorem dX12_beside_59 : decode cX12_beside 59 = .ok (.istore 6, 2) := by decide +kernel
theorem dX12_beside_61 : decode cX12_beside 61 = .ok (.iconst 1, 1) := by decide +kernel
theorem dX12_beside_62 : decode cX12_beside 62 = .ok (.istore 7, 2) := by decide +kernel
theorem dX12_beside_64 : decode cX12_beside 64 = .ok (.iload 7, 2) := by decide +kernel
theorem dX12_beside_66 : decode cX12_beside 66 = .ok (.aload_n 0, 1) := by decide +kernel
theorem dX12_beside_67 : decode cX12_beside 67 = .ok (.getfield 81, 3) := by decide +kernel
theorem dX12_beside_70 : decode cX12_beside 70 = .ok (.if_icmp .ge 39, 3) := by decide +kernel
theorem dX12_beside_73 : decode cX12_beside 73 = .ok (.iload 6, 2) := by decide +kernel
theorem dX12_beside_75 : decode cX12_beside 75 = .ok (.aload_n 0, 1) := by decide +kernel
theorem dX12_beside_76 : decode cX12_beside 76 = .ok (.aload_n 0, 1) := by decide +kernel
theorem dX12_beside_77 : decode cX12_beside 77 = .ok (.getfield 71, 3) := by decide +kernel
theorem dX12_beside_80 : decode cX12_beside 80 = .ok (.iload 7, 2) := by decide +kernel
theorem dX12_beside_82 : decode cX12_beside 82 = .ok (.iconst 1, 1) := by decide +kernel
theorem dX12_beside_83 : decode cX12_beside 83 = .ok (.isub, 1) := by decide +kernel
theorem dX12_beside_84 : decode cX12_beside 84 = .ok (.iaload, 1) := by decide +kernel
theorem dX12_beside_85 : decode cX12_beside 85 = .ok (.invokevirtual 106, 3) := by decide +kernel
theorem dX12_beside_88 : decode cX12_beside 88 = .ok (.aload_n 0, 1) := by decide +kernel
theorem dX12_beside_89 : decode cX12_beside 89 = .ok (.aload_n 0, 1) := by decide +kernel
theorem dX12_beside_90 : decode cX12_beside 90 = .ok (.getfield 71, 3) := by decide +kernel
theorem dX12_beside_93 : decode cX12_beside 93 = .ok (.iload 7, 2) := by decide +kernel
theorem dX12_beside_95 : decode cX12_beside 95 = .ok (.iaload, 1) := by decide +kernel
theorem dX12_beside_96 : decode cX12_beside 96 = .ok (.invokevirtual 106, 3) := by decide +kernel
theorem dX12_beside_99 : decode cX12_beside 99 = .ok (.imul, 1) := by decide +kernel
theorem dX12_beside_100 : decode cX12_beside 100 = .ok (.iadd, 1) := by decide +kernel
theorem dX12_beside_101 : decode cX12_beside 101 = .ok (.istore 6, 2) := by decide +kernel
theorem dX12_beside_103 : decode cX12_beside 103 = .ok (.iinc 7 1, 3) := by decide +kernel
theorem dX12_beside_106 : decode cX12_beside 106 = .ok (.goto (-42), 3) := by decide +kernel
theorem dX12_beside_109 : decode cX12_beside 109 = .ok (.iload 6, 2) := by decide +kernel
theorem dX12_beside_111 : decode cX12_beside 111 = .ok (.iload_n 3, 1) := by decide +kernel
theorem dX12_beside_112 : decode cX12_beside 112 = .ok (.if_icmp .le 8, 3) := by decide +kernel
theorem dX12_beside_115 : decode cX12_beside 115 = .ok (.iload 5, 2) := by decide +kernel
theorem dX12_beside_117 : decode cX12_beside 117 = .ok (.goto 4, 3) := by decide +kernel
theorem dX12_beside_120 : decode cX12_beside 120 = .ok (.iload_n 2, 1) := by decide +kernel
theorem dX12_beside_121 : decode cX12_beside 121 = .ok (.istore_n 2, 1) := by decide +kernel
theorem dX12_beside_122 : decode cX12_beside 122 = .ok (.iload 6, 2) := by decide +kernel
theorem dX12_beside_124 : decode cX12_beside 124 = .ok (.iload_n 3, 1) := by decide +kernel
theorem dX12_beside_125 : decode cX12_beside 125 = .ok (.if_icmp .le 8, 3) := by decide +kernel
theorem dX12_beside_128 : decode cX12_beside 128 = .ok (.iload 6, 2) := by decide +kernel
theorem dX12_beside_130 : decode cX12_beside 130 = .ok (.goto 4, 3) := by decide +kernel
theorem dX12_beside_133 : decode cX12_beside 133 = .ok (.iload_n 3, 1) := by decide +kernel
theorem dX12_beside_134 : decode cX12_beside 134 = .ok (.istore_n 3, 1) := by decide +kernel
theorem dX12_beside_135 : decode cX12_beside 135 = .ok (.iinc 5 1, 3) := by decide +kernel
theorem dX12_beside_138 : decode cX12_beside 138 = .ok (.goto (-97), 3) := by decide +kernel
theorem dX12_beside_141 : decode cX12_beside 141 = .ok (.aload_n 0, 1) := by decide +kernel
theorem dX12_beside_142 : decode cX12_beside 142 = .ok (.iload_n 2, 1) := by decide +kernel
theorem dX12_beside_143 : decode cX12_beside 143 = .ok (.aload_n 0, 1) := by decide +kernel
theorem dX12_beside_144 : decode cX12_beside 144 = .ok (.getfield 81, 3) := by decide +kernel
theorem dX12_beside_147 : decode cX12_beside 147 = .ok (.invokevirtual 293, 3) := by decide +kernel
theorem dX12_beside_150 : decode cX12_beside 150 = .ok (.iload_n 1, 1) := by decide +kernel
theorem dX12_beside_151 : decode cX12_beside 151 = .ok (.ifCond .ge 7, 3) := by decide +kernel
theorem dX12_beside_154 : decode cX12_beside 154 = .ok (.iload_n 3, 1) := by decide +kernel
theorem dX12_beside_155 : decode cX12_beside 155 = .ok (.goto 9, 3) := by decide +kernel
theorem dX12_beside_158 : decode cX12_beside 158 = .ok (.aload_n 0, 1) := by decide +kernel
theorem dX12_beside_159 : decode cX12_beside 159 = .ok (.getfield 71, 3) := by decide +kernel
theorem dX12_beside_162 : decode cX12_beside 162 = .ok (.iload_n 1, 1) := by decide +kernel
theorem dX12_beside_163 : decode cX12_beside 163 = .ok (.iaload, 1) := by decide +kernel
theorem dX12_beside_164 : decode cX12_beside 164 = .ok (.ireturn, 1) := by decide +kernel
theorem dX12_helps_0 : decode cX12_helps 0 = .ok (.aload_n 0, 1) := by decide +kernel
theorem dX12_helps_1 : decode cX12_helps 1 = .ok (.iconst 0, 1) := by decide +kernel
theorem dX12_helps_2 : decode cX12_helps 2 = .ok (.putfield 77, 3) := by decide +kernel
theorem dX12_helps_5 : decode cX12_helps 5 = .ok (.bipush (-4), 2) := by decide +kernel
theorem dX12_helps_7 : decode cX12_helps 7 = .ok (.istore_n 1, 1) := by decide +kernel
theorem dX12_helps_8 : decode cX12_helps 8 = .ok (.iconst (-1), 1) := by decide +kernel
theorem dX12_helps_9 : decode cX12_helps 9 = .ok (.istore_n 2, 1) := by decide +kernel
theorem dX12_helps_10 : decode cX12_helps 10 = .ok (.iconst 0, 1) := by decide +kernel
theorem dX12_helps_11 : decode cX12_helps 11 = .ok (.istore_n 3, 1) := by decide +kernel
theorem dX12_helps_12 : decode cX12_helps 12 = .ok (.iload_n 3, 1) := by decide +kernel
theorem dX12_helps_13 : decode cX12_helps 13 = .ok (.aload_n 0, 1) := by decide +kernel
theorem dX12_helps_14 : decode cX12_helps 14 = .ok (.getfield 81, 3) := by decide +kernel
theorem dX12_helps_17 : decode cX12_helps 17 = .ok (.if_icmp .ge 92, 3) := by decide +kernel
theorem dX12_helps_20 : decode cX12_helps 20 = .ok (.iload_n 3, 1) := by decide +kernel
theorem dX12_helps_21 : decode cX12_helps 21 = .ok (.ifCond .le 7, 3) := by decide +kernel
theorem dX12_helps_24 : decode cX12_helps 24 = .ok (.iconst 1, 1) := by decide +kernel
theorem dX12_helps_25 : decode cX12_helps 25 = .ok (.goto 4, 3) := by decide +kernel
theorem dX12_helps_28 : decode cX12_helps 28 = .ok (.iconst 0, 1) := by decide +kernel
theorem dX12_helps_29 : decode cX12_helps 29 = .ok (.iload_n 3, 1) := by decide +kernel
theorem dX12_helps_30 : decode cX12_helps 30 = .ok (.iconst 1, 1) := by decide +kernel
theorem dX12_helps_31 : decode cX12_helps 31 = .ok (.iadd, 1) := by decide +kernel
theorem dX12_helps_32 : decode cX12_helps 32 = .ok (.aload_n 0, 1) := by decide +kernel
theorem dX12_helps_33 : decode cX12_helps 33 = .ok (.getfield 81, 3) := by decide +kernel
theorem dX12_helps_36 : decode cX12_helps 36 = .ok (.if_icmp .ge 7, 3) := by decide +kernel
theorem dX12_helps_39 : decode cX12_helps 39 = .ok (.iconst 1, 1) := by decide +kernel
theorem dX12_helps_40 : decode cX12_helps 40 = .ok (.goto 4, 3) := by decide +kernel
theorem dX12_helps_43 : decode cX12_helps 43 = .ok (.iconst 0, 1) := by decide +kernel
theorem dX12_helps_44 : decode cX12_helps 44 = .ok (.iadd, 1) := by decide +kernel
theorem dX12_helps_45 : decode cX12_helps 45 = .ok (.istore 4, 2) := by decide +kernel
theorem dX12_helps_47 : decode cX12_helps 47 = .ok (.aload_n 0, 1) := by decide +kernel
theorem dX12_helps_48 : decode cX12_helps 48 = .ok (.iload_n 3, 1) := by decide +kernel
theorem dX12_helps_49 : decode cX12_helps 49 = .ok (.invokevirtual 109, 3) := by decide +kernel
theorem dX12_helps_52 : decode cX12_helps 52 = .ok (.ifCond .eq 19, 3) := by decide +kernel
theorem dX12_helps_55 : decode cX12_helps 55 = .ok (.aload_n 0, 1) := by decide +kernel
theorem dX12_helps_56 : decode cX12_helps 56 = .ok (.iload_n 3, 1) := by decide +kernel
theorem dX12_helps_57 : decode cX12_helps 57 = .ok (.invokevirtual 106, 3) := by decide +kernel
theorem dX12_helps_60 : decode cX12_helps 60 = .ok (.iload 4, 2) := by decide +kernel
theorem dX12_helps_62 : decode cX12_helps 62 = .ok (.imul, 1) := by decide +kernel
theorem dX12_helps_63 : decode cX12_helps 63 = .ok (.iload_n 2, 1) := by decide +kernel
theorem dX12_helps_64 : decode cX12_helps 64 = .ok (.if_icmp .le 7, 3) := by decide +kernel
theorem dX12_helps_67 : decode cX12_helps 67 = .ok (.iconst 1, 1) := by decide +kernel
theorem dX12_helps_68 : decode cX12_helps 68 = .ok (.goto 4, 3) := by decide +kernel
theorem dX12_helps_71 : decode cX12_helps 71 = .ok (.iconst 0, 1) := by decide +kernel
theorem dX12_helps_72 : decode cX12_helps 72 = .ok (.istore 5, 2) := by decide +kernel
theorem dX12_helps_74 : decode cX12_helps 74 = .ok (.iload 5, 2) := by decide +kernel
theorem dX12_helps_76 : decode cX12_helps 76 = .ok (.ifCond .eq 7, 3) := by decide +kernel
theorem dX12_helps_79 : decode cX12_helps 79 = .ok (.iload_n 3, 1) := by decide +kernel
theorem dX12_helps_80 : decode cX12_helps 80 = .ok (.goto 4, 3) := by decide +kernel
theorem dX12_helps_83 : decode cX12_helps 83 = .ok (.iload_n 1, 1) := by decide +kernel
theorem dX12_helps_84 : decode cX12_helps 84 = .ok (.istore_n 1, 1) := by decide +kernel
theorem dX12_helps_85 : decode cX12_helps 85 = .ok (.iload 5, 2) := by decide +kernel
theorem dX12_helps_87 : decode cX12_helps 87 = .ok (.ifCond .eq 14, 3) := by decide +kernel
theorem dX12_helps_90 : decode cX12_helps 90 = .ok (.aload_n 0, 1) := by decide +kernel
theorem dX12_helps_91 : decode cX12_helps 91 = .ok (.iload_n 3, 1) := by decide +kernel
theorem dX12_helps_92 : decode cX12_helps 92 = .ok (.invokevirtual 106, 3) := by decide +kernel
theorem dX12_helps_95 : decode cX12_helps 95 = .ok (.iload 4, 2) := by decide +kernel
theorem dX12_helps_97 : decode cX12_helps 97 = .ok (.imul, 1) := by decide +kernel
theorem dX12_helps_98 : decode cX12_helps 98 = .ok (.goto 4, 3) := by decide +kernel
theorem dX12_helps_101 : decode cX12_helps 101 = .ok (.iload_n 2, 1) := by decide +kernel
theorem dX12_helps_102 : decode cX12_helps 102 = .ok (.istore_n 2, 1) := by decide +kernel
theorem dX12_helps_103 : decode cX12_helps 103 = .ok (.iinc 3 1, 3) := by decide +kernel
theorem dX12_helps_106 : decode cX12_helps 106 = .ok (.goto (-94), 3) := by decide +kernel
theorem dX12_helps_109 : decode cX12_helps 109 = .ok (.iload_n 1, 1) := by decide +kernel
theorem dX12_helps_110 : decode cX12_helps 110 = .ok (.ireturn, 1) := by decide +kernel
theorem dX12_costs_0 : decode cX12_costs 0 = .ok (.aload_n 0, 1) := by decide +kernel
theorem dX12_costs_1 : decode cX12_costs 1 = .ok (.iconst 0, 1) := by decide +kernel
theorem dX12_costs_2 : decode cX12_costs 2 = .ok (.putfield 77, 3) := by decide +kernel
theorem dX12_costs_5 : decode cX12_costs 5 = .ok (.aload_n 0, 1) := by decide +kernel
theorem dX12_costs_6 : decode cX12_costs 6 = .ok (.iload_n 1, 1) := by decide +kernel
theorem dX12_costs_7 : decode cX12_costs 7 = .ok (.invokevirtual 99, 3) := by decide +kernel
theorem dX12_costs_10 : decode cX12_costs 10 = .ok (.ifCond .ne 5, 3) := by decide +kernel
theorem dX12_costs_13 : decode cX12_costs 13 = .ok (.iconst (-1), 1) := by decide +kernel
theorem dX12_costs_14 : decode cX12_costs 14 = .ok (.ireturn, 1) := by decide +kernel
theorem dX12_costs_15 : decode cX12_costs 15 = .ok (.aload_n 0, 1) := by decide +kernel
theorem dX12_costs_16 : decode cX12_costs 16 = .ok (.iload_n 1, 1) := by decide +kernel
theorem dX12_costs_17 : decode cX12_costs 17 = .ok (.iconst 0, 1) := by decide +kernel
theorem dX12_costs_18 : decode cX12_costs 18 = .ok (.invokevirtual 244, 3) := by decide +kernel
theorem dX12_costs_21 : decode cX12_costs 21 = .ok (.aload_n 0, 1) := by decide +kernel
theorem dX12_costs_22 : decode cX12_costs 22 = .ok (.iload_n 1, 1) := by decide +kernel
theorem dX12_costs_23 : decode cX12_costs 23 = .ok (.aload_n 0, 1) := by decide +kernel
theorem dX12_costs_24 : decode cX12_costs 24 = .ok (.getfield 16, 3) := by decide +kernel
theorem dX12_costs_27 : decode cX12_costs 27 = .ok (.iload_n 1, 1) := by decide +kernel
theorem dX12_costs_28 : decode cX12_costs 28 = .ok (.iaload, 1) := by decide +kernel
theorem dX12_costs_29 : decode cX12_costs 29 = .ok (.invokevirtual 247, 3) := by decide +kernel
theorem dX12_costs_32 : decode cX12_costs 32 = .ok (.istore_n 2, 1) := by decide +kernel
theorem dX12_costs_33 : decode cX12_costs 33 = .ok (.aload_n 0, 1) := by decide +kernel
theorem dX12_costs_34 : decode cX12_costs 34 = .ok (.iload_n 1, 1) := by decide +kernel
theorem dX12_costs_35 : decode cX12_costs 35 = .ok (.aload_n 0, 1) := by decide +kernel
theorem dX12_costs_36 : decode cX12_costs 36 = .ok (.getfield 16, 3) := by decide +kernel
theorem dX12_costs_39 : decode cX12_costs 39 = .ok (.iload_n 1, 1) := by decide +kernel
theorem dX12_costs_40 : decode cX12_costs 40 = .ok (.iaload, 1) := by decide +kernel
theorem dX12_costs_41 : decode cX12_costs 41 = .ok (.aload_n 0, 1) := by decide +kernel
theorem dX12_costs_42 : decode cX12_costs 42 = .ok (.iload_n 1, 1) := by decide +kernel
theorem dX12_costs_43 : decode cX12_costs 43 = .ok (.invokevirtual 116, 3) := by decide +kernel
theorem dX12_costs_46 : decode cX12_costs 46 = .ok (.isub, 1) := by decide +kernel
theorem dX12_costs_47 : decode cX12_costs 47 = .ok (.invokevirtual 247, 3) := by decide +kernel
theorem dX12_costs_50 : decode cX12_costs 50 = .ok (.istore_n 3, 1) := by decide +kernel
theorem dX12_costs_51 : decode cX12_costs 51 = .ok (.iload_n 2, 1) := by decide +kernel
theorem dX12_costs_52 : decode cX12_costs 52 = .ok (.ifCond .ge 8, 3) := by decide +kernel
theorem dX12_costs_55 : decode cX12_costs 55 = .ok (.bipush (-4), 2) := by decide +kernel
theorem dX12_costs_57 : decode cX12_costs 57 = .ok (.goto 15, 3) := by decide +kernel
theorem dX12_costs_60 : decode cX12_costs 60 = .ok (.iload_n 3, 1) := by decide +kernel
theorem dX12_costs_61 : decode cX12_costs 61 = .ok (.ifCond .ge 8, 3) := by decide +kernel
theorem dX12_costs_64 : decode cX12_costs 64 = .ok (.bipush 60, 2) := by decide +kernel
theorem dX12_costs_66 : decode cX12_costs 66 = .ok (.goto 4, 3) := by decide +kernel
theorem dX12_costs_69 : decode cX12_costs 69 = .ok (.iload_n 3, 1) := by decide +kernel
theorem dX12_costs_70 : decode cX12_costs 70 = .ok (.iload_n 2, 1) := by decide +kernel
theorem dX12_costs_71 : decode cX12_costs 71 = .ok (.isub, 1) := by decide +kernel
theorem dX12_costs_72 : decode cX12_costs 72 = .ok (.ireturn, 1) := by decide +kernel
theorem dX12_bands_0 : decode cX12_bands 0 = .ok (.aload_n 0, 1) := by decide +kernel
theorem dX12_bands_1 : decode cX12_bands 1 = .ok (.iconst 0, 1) := by decide +kernel
theorem dX12_bands_2 : decode cX12_bands 2 = .ok (.putfield 77, 3) := by decide +kernel
theorem dX12_bands_5 : decode cX12_bands 5 = .ok (.aload_n 0, 1) := by decide +kernel
theorem dX12_bands_6 : decode cX12_bands 6 = .ok (.iload_n 1, 1) := by decide +kernel
theorem dX12_bands_7 : decode cX12_bands 7 = .ok (.invokevirtual 99, 3) := by decide +kernel
theorem dX12_bands_10 : decode cX12_bands 10 = .ok (.ifCond .eq 27, 3) := by decide +kernel
theorem dX12_bands_13 : decode cX12_bands 13 = .ok (.iload_n 2, 1) := by decide +kernel
theorem dX12_bands_14 : decode cX12_bands 14 = .ok (.i2l, 1) := by decide +kernel
theorem dX12_bands_15 : decode cX12_bands 15 = .ok (.lconst 0, 1) := by decide +kernel
theorem dX12_bands_16 : decode cX12_bands 16 = .ok (.ldc2_w 232, 3) := by decide +kernel
theorem dX12_bands_19 : decode cX12_bands 19 = .ok (.invokestatic 84, 3) := by decide +kernel
theorem dX12_bands_22 : decode cX12_bands 22 = .ok (.ifCond .eq 15, 3) := by decide +kernel
theorem dX12_bands_25 : decode cX12_bands 25 = .ok (.iload_n 3, 1) := by decide +kernel
theorem dX12_bands_26 : decode cX12_bands 26 = .ok (.i2l, 1) := by decide +kernel
theorem dX12_bands_27 : decode cX12_bands 27 = .ok (.lconst 1, 1) := by decide +kernel
theorem dX12_bands_28 : decode cX12_bands 28 = .ok (.ldc2_w 232, 3) := by decide +kernel
theorem dX12_bands_31 : decode cX12_bands 31 = .ok (.invokestatic 84, 3) := by decide +kernel
theorem dX12_bands_34 : decode cX12_bands 34 = .ok (.ifCond .ne 5, 3) := by decide +kernel
theorem dX12_bands_37 : decode cX12_bands 37 = .ok (.iconst (-1), 1) := by decide +kernel
theorem dX12_bands_38 : decode cX12_bands 38 = .ok (.ireturn, 1) := by decide +kernel
theorem dX12_bands_39 : decode cX12_bands 39 = .ok (.aload_n 0, 1) := by decide +kernel
theorem dX12_bands_40 : decode cX12_bands 40 = .ok (.getfield 19, 3) := by decide +kernel
theorem dX12_bands_43 : decode cX12_bands 43 = .ok (.iload_n 1, 1) := by decide +kernel
theorem dX12_bands_44 : decode cX12_bands 44 = .ok (.iaload, 1) := by decide +kernel
theorem dX12_bands_45 : decode cX12_bands 45 = .ok (.bipush 7, 2) := by decide +kernel
theorem dX12_bands_47 : decode cX12_bands 47 = .ok (.if_icmp .ne 6, 3) := by decide +kernel
theorem dX12_bands_50 : decode cX12_bands 50 = .ok (.bipush (-3), 2) := by decide +kernel
theorem dX12_bands_52 : decode cX12_bands 52 = .ok (.ireturn, 1) := by decide +kernel
theorem dX12_bands_53 : decode cX12_bands 53 = .ok (.iload_n 2, 1) := by decide +kernel
theorem dX12_bands_54 : decode cX12_bands 54 = .ok (.istore 4, 2) := by decide +kernel
theorem dX12_bands_56 : decode cX12_bands 56 = .ok (.iconst 0, 1) := by decide +kernel
theorem dX12_bands_57 : decode cX12_bands 57 = .ok (.istore 5, 2) := by decide +kernel
theorem dX12_bands_59 : decode cX12_bands 59 = .ok (.iload 5, 2) := by decide +kernel
theorem dX12_bands_61 : decode cX12_bands 61 = .ok (.bipush 12, 2) := by decide +kernel
theorem dX12_bands_63 : decode cX12_bands 63 = .ok (.if_icmp .ge 61, 3) := by decide +kernel
theorem dX12_bands_66 : decode cX12_bands 66 = .ok (.aload_n 0, 1) := by decide +kernel
theorem dX12_bands_67 : decode cX12_bands 67 = .ok (.getfield 16, 3) := by decide +kernel
theorem dX12_bands_70 : decode cX12_bands 70 = .ok (.iload_n 1, 1) := by decide +kernel
theorem dX12_bands_71 : decode cX12_bands 71 = .ok (.iaload, 1) := by decide +kernel
theorem dX12_bands_72 : decode cX12_bands 72 = .ok (.iload 5, 2) := by decide +kernel
theorem dX12_bands_74 : decode cX12_bands 74 = .ok (.iadd, 1) := by decide +kernel
theorem dX12_bands_75 : decode cX12_bands 75 = .ok (.bipush 20, 2) := by decide +kernel
theorem dX12_bands_77 : decode cX12_bands 77 = .ok (.invokestatic 103, 3) := by decide +kernel
theorem dX12_bands_80 : decode cX12_bands 80 = .ok (.aload_n 0, 1) := by decide +kernel
theorem dX12_bands_81 : decode cX12_bands 81 = .ok (.iload_n 1, 1) := by decide +kernel
theorem dX12_bands_82 : decode cX12_bands 82 = .ok (.invokevirtual 95, 3) := by decide +kernel
theorem dX12_bands_85 : decode cX12_bands 85 = .ok (.iload 4, 2) := by decide +kernel
theorem dX12_bands_87 : decode cX12_bands 87 = .ok (.isub, 1) := by decide +kernel
theorem dX12_bands_88 : decode cX12_bands 88 = .ok (.bipush 99, 2) := by decide +kernel
theorem dX12_bands_90 : decode cX12_bands 90 = .ok (.invokestatic 103, 3) := by decide +kernel
theorem dX12_bands_93 : decode cX12_bands 93 = .ok (.if_icmp .ge 6, 3) := by decide +kernel
theorem dX12_bands_96 : decode cX12_bands 96 = .ok (.iload 5, 2) := by decide +kernel
theorem dX12_bands_98 : decode cX12_bands 98 = .ok (.ireturn, 1) := by decide +kernel
theorem dX12_bands_99 : decode cX12_bands 99 = .ok (.iload 4, 2) := by decide +kernel
theorem dX12_bands_101 : decode cX12_bands 101 = .ok (.ifCond .ne 6, 3) := by decide +kernel
theorem dX12_bands_104 : decode cX12_bands 104 = .ok (.bipush (-4), 2) := by decide +kernel
theorem dX12_bands_106 : decode cX12_bands 106 = .ok (.ireturn, 1) := by decide +kernel
theorem dX12_bands_107 : decode cX12_bands 107 = .ok (.iload 4, 2) := by decide +kernel
theorem dX12_bands_109 : decode cX12_bands 109 = .ok (.iload_n 3, 1) := by decide +kernel
theorem dX12_bands_110 : decode cX12_bands 110 = .ok (.isub, 1) := by decide +kernel
theorem dX12_bands_111 : decode cX12_bands 111 = .ok (.bipush 9, 2) := by decide +kernel
theorem dX12_bands_113 : decode cX12_bands 113 = .ok (.invokestatic 103, 3) := by decide +kernel
theorem dX12_bands_116 : decode cX12_bands 116 = .ok (.istore 4, 2) := by decide +kernel
theorem dX12_bands_118 : decode cX12_bands 118 = .ok (.iinc 5 1, 3) := by decide +kernel
theorem dX12_bands_121 : decode cX12_bands 121 = .ok (.goto (-62), 3) := by decide +kernel
theorem dX12_bands_124 : decode cX12_bands 124 = .ok (.bipush (-4), 2) := by decide +kernel
theorem dX12_bands_126 : decode cX12_bands 126 = .ok (.ireturn, 1) := by decide +kernel
theorem dX12_divisor_0 : decode cX12_divisor 0 = .ok (.lload_n 0, 1) := by decide +kernel
theorem dX12_divisor_1 : decode cX12_divisor 1 = .ok (.lstore 4, 2) := by decide +kernel
theorem dX12_divisor_3 : decode cX12_divisor 3 = .ok (.lload_n 2, 1) := by decide +kernel
theorem dX12_divisor_4 : decode cX12_divisor 4 = .ok (.lstore 6, 2) := by decide +kernel
theorem dX12_divisor_6 : decode cX12_divisor 6 = .ok (.lload 6, 2) := by decide +kernel
theorem dX12_divisor_8 : decode cX12_divisor 8 = .ok (.lconst 0, 1) := by decide +kernel
theorem dX12_divisor_9 : decode cX12_divisor 9 = .ok (.lcmp, 1) := by decide +kernel
theorem dX12_divisor_10 : decode cX12_divisor 10 = .ok (.ifCond .eq 21, 3) := by decide +kernel
theorem dX12_divisor_13 : decode cX12_divisor 13 = .ok (.lload 4, 2) := by decide +kernel
theorem dX12_divisor_15 : decode cX12_divisor 15 = .ok (.lload 6, 2) := by decide +kernel
theorem dX12_divisor_17 : decode cX12_divisor 17 = .ok (.lrem, 1) := by decide +kernel
theorem dX12_divisor_18 : decode cX12_divisor 18 = .ok (.lstore 8, 2) := by decide +kernel
theorem dX12_divisor_20 : decode cX12_divisor 20 = .ok (.lload 6, 2) := by decide +kernel
theorem dX12_divisor_22 : decode cX12_divisor 22 = .ok (.lstore 4, 2) := by decide +kernel
theorem dX12_divisor_24 : decode cX12_divisor 24 = .ok (.lload 8, 2) := by decide +kernel
theorem dX12_divisor_26 : decode cX12_divisor 26 = .ok (.lstore 6, 2) := by decide +kernel
theorem dX12_divisor_28 : decode cX12_divisor 28 = .ok (.goto (-22), 3) := by decide +kernel
theorem dX12_divisor_31 : decode cX12_divisor 31 = .ok (.lload 4, 2) := by decide +kernel
theorem dX12_divisor_33 : decode cX12_divisor 33 = .ok (.lreturn, 1) := by decide +kernel
theorem dX12_partOf_0 : decode cX12_partOf 0 = .ok (.lload_n 0, 1) := by decide +kernel
theorem dX12_partOf_1 : decode cX12_partOf 1 = .ok (.lconst 0, 1) := by decide +kernel
theorem dX12_partOf_2 : decode cX12_partOf 2 = .ok (.lcmp, 1) := by decide +kernel
theorem dX12_partOf_3 : decode cX12_partOf 3 = .ok (.ifCond .ne 7, 3) := by decide +kernel
theorem dX12_partOf_6 : decode cX12_partOf 6 = .ok (.iload 4, 2) := by decide +kernel
theorem dX12_partOf_8 : decode cX12_partOf 8 = .ok (.i2l, 1) := by decide +kernel
theorem dX12_partOf_9 : decode cX12_partOf 9 = .ok (.lreturn, 1) := by decide +kernel
theorem dX12_partOf_10 : decode cX12_partOf 10 = .ok (.lload_n 0, 1) := by decide +kernel
theorem dX12_partOf_11 : decode cX12_partOf 11 = .ok (.lload_n 2, 1) := by decide +kernel
theorem dX12_partOf_12 : decode cX12_partOf 12 = .ok (.invokestatic 296, 3) := by decide +kernel
theorem dX12_partOf_15 : decode cX12_partOf 15 = .ok (.lstore 5, 2) := by decide +kernel
theorem dX12_partOf_17 : decode cX12_partOf 17 = .ok (.iload 4, 2) := by decide +kernel
theorem dX12_partOf_19 : decode cX12_partOf 19 = .ok (.ifCond .ne 10, 3) := by decide +kernel
theorem dX12_partOf_22 : decode cX12_partOf 22 = .ok (.lload_n 0, 1) := by decide +kernel
theorem dX12_partOf_23 : decode cX12_partOf 23 = .ok (.lload 5, 2) := by decide +kernel
theorem dX12_partOf_25 : decode cX12_partOf 25 = .ok (.ldiv, 1) := by decide +kernel
theorem dX12_partOf_26 : decode cX12_partOf 26 = .ok (.goto 7, 3) := by decide +kernel
theorem dX12_partOf_29 : decode cX12_partOf 29 = .ok (.lload_n 2, 1) := by decide +kernel
theorem dX12_partOf_30 : decode cX12_partOf 30 = .ok (.lload 5, 2) := by decide +kernel
theorem dX12_partOf_32 : decode cX12_partOf 32 = .ok (.ldiv, 1) := by decide +kernel
theorem dX12_partOf_33 : decode cX12_partOf 33 = .ok (.lreturn, 1) := by decide +kernel
theorem dX12_frights_0 : decode cX12_frights 0 = .ok (.aload_n 0, 1) := by decide +kernel
theorem dX12_frights_1 : decode cX12_frights 1 = .ok (.iconst 0, 1) := by decide +kernel
theorem dX12_frights_2 : decode cX12_frights 2 = .ok (.putfield 77, 3) := by decide +kernel
theorem dX12_frights_5 : decode cX12_frights 5 = .ok (.aload_n 0, 1) := by decide +kernel
theorem dX12_frights_6 : decode cX12_frights 6 = .ok (.iload_n 1, 1) := by decide +kernel
theorem dX12_frights_7 : decode cX12_frights 7 = .ok (.invokevirtual 99, 3) := by decide +kernel
theorem dX12_frights_10 : decode cX12_frights 10 = .ok (.ifCond .eq 53, 3) := by decide +kernel
theorem dX12_frights_13 : decode cX12_frights 13 = .ok (.iload_n 2, 1) := by decide +kernel
theorem dX12_frights_14 : decode cX12_frights 14 = .ok (.i2l, 1) := by decide +kernel
theorem dX12_frights_15 : decode cX12_frights 15 = .ok (.lconst 0, 1) := by decide +kernel
theorem dX12_frights_16 : decode cX12_frights 16 = .ok (.ldc2_w 300, 3) := by decide +kernel
theorem dX12_frights_19 : decode cX12_frights 19 = .ok (.invokestatic 84, 3) := by decide +kernel
theorem dX12_frights_22 : decode cX12_frights 22 = .ok (.ifCond .eq 41, 3) := by decide +kernel
theorem dX12_frights_25 : decode cX12_frights 25 = .ok (.iload_n 3, 1) := by decide +kernel
theorem dX12_frights_26 : decode cX12_frights 26 = .ok (.i2l, 1) := by decide +kernel
theorem dX12_frights_27 : decode cX12_frights 27 = .ok (.lconst 0, 1) := by decide +kernel
theorem dX12_frights_28 : decode cX12_frights 28 = .ok (.ldc2_w 223, 3) := by decide +kernel
theorem dX12_frights_31 : decode cX12_frights 31 = .ok (.invokestatic 84, 3) := by decide +kernel
theorem dX12_frights_34 : decode cX12_frights 34 = .ok (.ifCond .eq 29, 3) := by decide +kernel
theorem dX12_frights_37 : decode cX12_frights 37 = .ok (.iload 4, 2) := by decide +kernel
theorem dX12_frights_39 : decode cX12_frights 39 = .ok (.i2l, 1) := by decide +kernel
theorem dX12_frights_40 : decode cX12_frights 40 = .ok (.ldc2_w 302, 3) := by decide +kernel
theorem dX12_frights_43 : decode cX12_frights 43 = .ok (.ldc2_w 225, 3) := by decide +kernel
theorem dX12_frights_46 : decode cX12_frights 46 = .ok (.invokestatic 84, 3) := by decide +kernel
theorem dX12_frights_49 : decode cX12_frights 49 = .ok (.ifCond .eq 14, 3) := by decide +kernel
theorem dX12_frights_52 : decode cX12_frights 52 = .ok (.iload 5, 2) := by decide +kernel
theorem dX12_frights_54 : decode cX12_frights 54 = .ok (.i2l, 1) := by decide +kernel
theorem dX12_frights_55 : decode cX12_frights 55 = .ok (.lconst 0, 1) := by decide +kernel
theorem dX12_frights_56 : decode cX12_frights 56 = .ok (.lconst 1, 1) := by decide +kernel
theorem dX12_frights_57 : decode cX12_frights 57 = .ok (.invokestatic 84, 3) := by decide +kernel
theorem dX12_frights_60 : decode cX12_frights 60 = .ok (.ifCond .ne 7, 3) := by decide +kernel
theorem dX12_frights_63 : decode cX12_frights 63 = .ok (.ldc2_w 304, 3) := by decide +kernel
theorem dX12_frights_66 : decode cX12_frights 66 = .ok (.lreturn, 1) := by decide +kernel
theorem dX12_frights_67 : decode cX12_frights 67 = .ok (.lconst 0, 1) := by decide +kernel
theorem dX12_frights_68 : decode cX12_frights 68 = .ok (.lstore 6, 2) := by decide +kernel
theorem dX12_frights_70 : decode cX12_frights 70 = .ok (.lconst 1, 1) := by decide +kernel
theorem dX12_frights_71 : decode cX12_frights 71 = .ok (.lstore 8, 2) := by decide +kernel
theorem dX12_frights_73 : decode cX12_frights 73 = .ok (.iconst 0, 1) := by decide +kernel
theorem dX12_frights_74 : decode cX12_frights 74 = .ok (.istore 10, 2) := by decide +kernel
theorem dX12_frights_76 : decode cX12_frights 76 = .ok (.iload 10, 2) := by decide +kernel
theorem dX12_frights_78 : decode cX12_frights 78 = .ok (.iload_n 2, 1) := by decide +kernel
theorem dX12_frights_79 : decode cX12_frights 79 = .ok (.if_icmp .ge 17, 3) := by decide +kernel
theorem dX12_frights_82 : decode cX12_frights 82 = .ok (.lload 8, 2) := by decide +kernel
theorem dX12_frights_84 : decode cX12_frights 84 = .ok (.iload 4, 2) := by decide +kernel
theorem dX12_frights_86 : decode cX12_frights 86 = .ok (.i2l, 1) := by decide +kernel
theorem dX12_frights_87 : decode cX12_frights 87 = .ok (.lmul, 1) := by decide +kernel
theorem dX12_frights_88 : decode cX12_frights 88 = .ok (.lstore 8, 2) := by decide +kernel
theorem dX12_frights_90 : decode cX12_frights 90 = .ok (.iinc 10 1, 3) := by decide +kernel
theorem dX12_frights_93 : decode cX12_frights 93 = .ok (.goto (-17), 3) := by decide +kernel
theorem dX12_frights_96 : decode cX12_frights 96 = .ok (.iconst 0, 1) := by decide +kernel
theorem dX12_frights_97 : decode cX12_frights 97 = .ok (.istore 10, 2) := by decide +kernel
theorem dX12_frights_99 : decode cX12_frights 99 = .ok (.iload 10, 2) := by decide +kernel
theorem dX12_frights_101 : decode cX12_frights 101 = .ok (.iconst 1, 1) := by decide +kernel
theorem dX12_frights_102 : decode cX12_frights 102 = .ok (.iload_n 2, 1) := by decide +kernel
theorem dX12_frights_103 : decode cX12_frights 103 = .ok (.ishl, 1) := by decide +kernel
theorem dX12_frights_104 : decode cX12_frights 104 = .ok (.if_icmp .ge 160, 3) := by decide +kernel
theorem dX12_frights_107 : decode cX12_frights 107 = .ok (.lconst 1, 1) := by decide +kernel
theorem dX12_frights_108 : decode cX12_frights 108 = .ok (.lstore 11, 2) := by decide +kernel
theorem dX12_frights_110 : decode cX12_frights 110 = .ok (.aload_n 0, 1) := by decide +kernel
theorem dX12_frights_111 : decode cX12_frights 111 = .ok (.getfield 19, 3) := by decide +kernel
theorem dX12_frights_114 : decode cX12_frights 114 = .ok (.iload_n 1, 1) := by decide +kernel
theorem dX12_frights_115 : decode cX12_frights 115 = .ok (.iaload, 1) := by decide +kernel
theorem dX12_frights_116 : decode cX12_frights 116 = .ok (.istore 13, 2) := by decide +kernel
theorem dX12_frights_118 : decode cX12_frights 118 = .ok (.aload_n 0, 1) := by decide +kernel
theorem dX12_frights_119 : decode cX12_frights 119 = .ok (.getfield 16, 3) := by decide +kernel
theorem dX12_frights_122 : decode cX12_frights 122 = .ok (.iload_n 1, 1) := by decide +kernel
theorem dX12_frights_123 : decode cX12_frights 123 = .ok (.iaload, 1) := by decide +kernel
theorem dX12_frights_124 : decode cX12_frights 124 = .ok (.istore 14, 2) := by decide +kernel
theorem dX12_frights_126 : decode cX12_frights 126 = .ok (.iconst 0, 1) := by decide +kernel
theorem dX12_frights_127 : decode cX12_frights 127 = .ok (.istore 15, 2) := by decide +kernel
theorem dX12_frights_129 : decode cX12_frights 129 = .ok (.iload 15, 2) := by decide +kernel
theorem dX12_frights_131 : decode cX12_frights 131 = .ok (.iload_n 2, 1) := by decide +kernel
theorem dX12_frights_132 : decode cX12_frights 132 = .ok (.if_icmp .ge 102, 3) := by decide +kernel
theorem dX12_frights_135 : decode cX12_frights 135 = .ok (.lload 11, 2) := by decide +kernel
theorem dX12_frights_137 : decode cX12_frights 137 = .ok (.iload 10, 2) := by decide +kernel
theorem dX12_frights_139 : decode cX12_frights 139 = .ok (.iload 15, 2) := by decide +kernel
theorem dX12_frights_141 : decode cX12_frights 141 = .ok (.invokestatic 288, 3) := by decide +kernel
theorem dX12_frights_144 : decode cX12_frights 144 = .ok (.ifCond .eq 7, 3) := by decide +kernel
theorem dX12_frights_147 : decode cX12_frights 147 = .ok (.lconst 1, 1) := by decide +kernel
theorem dX12_frights_148 : decode cX12_frights 148 = .ok (.goto 8, 3) := by decide +kernel
theorem dX12_frights_151 : decode cX12_frights 151 = .ok (.iload 4, 2) := by decide +kernel
theorem dX12_frights_153 : decode cX12_frights 153 = .ok (.iconst 1, 1) := by decide +kernel
theorem dX12_frights_154 : decode cX12_frights 154 = .ok (.isub, 1) := by decide +kernel
theorem dX12_frights_155 : decode cX12_frights 155 = .ok (.i2l, 1) := by decide +kernel
theorem dX12_frights_156 : decode cX12_frights 156 = .ok (.lmul, 1) := by decide +kernel
theorem dX12_frights_157 : decode cX12_frights 157 = .ok (.lstore 11, 2) := by decide +kernel
theorem dX12_frights_159 : decode cX12_frights 159 = .ok (.iload 13, 2) := by decide +kernel
theorem dX12_frights_161 : decode cX12_frights 161 = .ok (.bipush 7, 2) := by decide +kernel
theorem dX12_frights_163 : decode cX12_frights 163 = .ok (.if_icmp .ge 19, 3) := by decide +kernel
theorem dX12_frights_166 : decode cX12_frights 166 = .ok (.iload 14, 2) := by decide +kernel
theorem dX12_frights_168 : decode cX12_frights 168 = .ok (.aload_n 0, 1) := by decide +kernel
theorem dX12_frights_169 : decode cX12_frights 169 = .ok (.iload_n 1, 1) := by decide +kernel
theorem dX12_frights_170 : decode cX12_frights 170 = .ok (.iload 13, 2) := by decide +kernel
theorem dX12_frights_172 : decode cX12_frights 172 = .ok (.invokevirtual 92, 3) := by decide +kernel
theorem dX12_frights_175 : decode cX12_frights 175 = .ok (.if_icmp .lt 7, 3) := by decide +kernel
theorem dX12_frights_178 : decode cX12_frights 178 = .ok (.iconst 1, 1) := by decide +kernel
theorem dX12_frights_179 : decode cX12_frights 179 = .ok (.goto 4, 3) := by decide +kernel
theorem dX12_frights_182 : decode cX12_frights 182 = .ok (.iconst 0, 1) := by decide +kernel
theorem dX12_frights_183 : decode cX12_frights 183 = .ok (.istore 16, 2) := by decide +kernel
theorem dX12_frights_185 : decode cX12_frights 185 = .ok (.iload 16, 2) := by decide +kernel
theorem dX12_frights_187 : decode cX12_frights 187 = .ok (.ifCond .eq 19, 3) := by decide +kernel
theorem dX12_frights_190 : decode cX12_frights 190 = .ok (.iload 10, 2) := by decide +kernel
theorem dX12_frights_192 : decode cX12_frights 192 = .ok (.iload 15, 2) := by decide +kernel
theorem dX12_frights_194 : decode cX12_frights 194 = .ok (.invokestatic 288, 3) := by decide +kernel
theorem dX12_frights_197 : decode cX12_frights 197 = .ok (.ifCond .ne 9, 3) := by decide +kernel
theorem dX12_frights_200 : decode cX12_frights 200 = .ok (.iinc 13 1, 3) := by decide +kernel
theorem dX12_frights_203 : decode cX12_frights 203 = .ok (.goto 25, 3) := by decide +kernel
theorem dX12_frights_206 : decode cX12_frights 206 = .ok (.iload 13, 2) := by decide +kernel
theorem dX12_frights_208 : decode cX12_frights 208 = .ok (.bipush 7, 2) := by decide +kernel
theorem dX12_frights_210 : decode cX12_frights 210 = .ok (.if_icmp .ge 18, 3) := by decide +kernel
theorem dX12_frights_213 : decode cX12_frights 213 = .ok (.iload 14, 2) := by decide +kernel
theorem dX12_frights_215 : decode cX12_frights 215 = .ok (.aload_n 0, 1) := by decide +kernel
theorem dX12_frights_216 : decode cX12_frights 216 = .ok (.iload_n 1, 1) := by decide +kernel
theorem dX12_frights_217 : decode cX12_frights 217 = .ok (.invokevirtual 116, 3) := by decide +kernel
theorem dX12_frights_220 : decode cX12_frights 220 = .ok (.isub, 1) := by decide +kernel
theorem dX12_frights_221 : decode cX12_frights 221 = .ok (.bipush 20, 2) := by decide +kernel
theorem dX12_frights_223 : decode cX12_frights 223 = .ok (.invokestatic 103, 3) := by decide +kernel
theorem dX12_frights_226 : decode cX12_frights 226 = .ok (.istore 14, 2) := by decide +kernel
theorem dX12_frights_228 : decode cX12_frights 228 = .ok (.iinc 15 1, 3) := by decide +kernel
theorem dX12_frights_231 : decode cX12_frights 231 = .ok (.goto (-102), 3) := by decide +kernel
theorem dX12_frights_234 : decode cX12_frights 234 = .ok (.lload 6, 2) := by decide +kernel
theorem dX12_frights_236 : decode cX12_frights 236 = .ok (.iload 13, 2) := by decide +kernel
theorem dX12_frights_238 : decode cX12_frights 238 = .ok (.aload_n 0, 1) := by decide +kernel
theorem dX12_frights_239 : decode cX12_frights 239 = .ok (.getfield 19, 3) := by decide +kernel
theorem dX12_frights_242 : decode cX12_frights 242 = .ok (.iload_n 1, 1) := by decide +kernel
theorem dX12_frights_243 : decode cX12_frights 243 = .ok (.iaload, 1) := by decide +kernel
theorem dX12_frights_244 : decode cX12_frights 244 = .ok (.isub, 1) := by decide +kernel
theorem dX12_frights_245 : decode cX12_frights 245 = .ok (.iload_n 3, 1) := by decide +kernel
theorem dX12_frights_246 : decode cX12_frights 246 = .ok (.if_icmp .lt 8, 3) := by decide +kernel
theorem dX12_frights_249 : decode cX12_frights 249 = .ok (.lload 11, 2) := by decide +kernel
theorem dX12_frights_251 : decode cX12_frights 251 = .ok (.goto 4, 3) := by decide +kernel
theorem dX12_frights_254 : decode cX12_frights 254 = .ok (.lconst 0, 1) := by decide +kernel
theorem dX12_frights_255 : decode cX12_frights 255 = .ok (.ladd, 1) := by decide +kernel
theorem dX12_frights_256 : decode cX12_frights 256 = .ok (.lstore 6, 2) := by decide +kernel
theorem dX12_frights_258 : decode cX12_frights 258 = .ok (.iinc 10 1, 3) := by decide +kernel
theorem dX12_frights_261 : decode cX12_frights 261 = .ok (.goto (-162), 3) := by decide +kernel
theorem dX12_frights_264 : decode cX12_frights 264 = .ok (.lload 6, 2) := by decide +kernel
theorem dX12_frights_266 : decode cX12_frights 266 = .ok (.lload 8, 2) := by decide +kernel
theorem dX12_frights_268 : decode cX12_frights 268 = .ok (.iload 5, 2) := by decide +kernel
theorem dX12_frights_270 : decode cX12_frights 270 = .ok (.invokestatic 306, 3) := by decide +kernel
theorem dX12_frights_273 : decode cX12_frights 273 = .ok (.lreturn, 1) := by decide +kernel
theorem dX12_was_0 : decode cX12_was 0 = .ok (.aload_n 0, 1) := by decide +kernel
theorem dX12_was_1 : decode cX12_was 1 = .ok (.iconst 0, 1) := by decide +kernel
theorem dX12_was_2 : decode cX12_was 2 = .ok (.putfield 77, 3) := by decide +kernel
theorem dX12_was_5 : decode cX12_was 5 = .ok (.iload_n 2, 1) := by decide +kernel
theorem dX12_was_6 : decode cX12_was 6 = .ok (.i2l, 1) := by decide +kernel
theorem dX12_was_7 : decode cX12_was 7 = .ok (.lconst 0, 1) := by decide +kernel
theorem dX12_was_8 : decode cX12_was 8 = .ok (.ldc2_w 225, 3) := by decide +kernel
theorem dX12_was_11 : decode cX12_was 11 = .ok (.invokestatic 84, 3) := by decide +kernel
theorem dX12_was_14 : decode cX12_was 14 = .ok (.ifCond .eq 34, 3) := by decide +kernel
theorem dX12_was_17 : decode cX12_was 17 = .ok (.iload_n 3, 1) := by decide +kernel
theorem dX12_was_18 : decode cX12_was 18 = .ok (.i2l, 1) := by decide +kernel
theorem dX12_was_19 : decode cX12_was 19 = .ok (.lconst 0, 1) := by decide +kernel
theorem dX12_was_20 : decode cX12_was 20 = .ok (.ldc2_w 232, 3) := by decide +kernel
theorem dX12_was_23 : decode cX12_was 23 = .ok (.invokestatic 84, 3) := by decide +kernel
theorem dX12_was_26 : decode cX12_was 26 = .ok (.ifCond .eq 22, 3) := by decide +kernel
theorem dX12_was_29 : decode cX12_was 29 = .ok (.iload 4, 2) := by decide +kernel
theorem dX12_was_31 : decode cX12_was 31 = .ok (.i2l, 1) := by decide +kernel
theorem dX12_was_32 : decode cX12_was 32 = .ok (.lconst 0, 1) := by decide +kernel
theorem dX12_was_33 : decode cX12_was 33 = .ok (.lconst 1, 1) := by decide +kernel
theorem dX12_was_34 : decode cX12_was 34 = .ok (.invokestatic 84, 3) := by decide +kernel
theorem dX12_was_37 : decode cX12_was 37 = .ok (.ifCond .eq 11, 3) := by decide +kernel
theorem dX12_was_40 : decode cX12_was 40 = .ok (.aload_n 0, 1) := by decide +kernel
theorem dX12_was_41 : decode cX12_was 41 = .ok (.iload_n 1, 1) := by decide +kernel
theorem dX12_was_42 : decode cX12_was 42 = .ok (.invokevirtual 189, 3) := by decide +kernel
theorem dX12_was_45 : decode cX12_was 45 = .ok (.goto 4, 3) := by decide +kernel
theorem dX12_was_48 : decode cX12_was 48 = .ok (.iconst (-1), 1) := by decide +kernel
theorem dX12_was_49 : decode cX12_was 49 = .ok (.istore 5, 2) := by decide +kernel
theorem dX12_was_51 : decode cX12_was 51 = .ok (.iload 5, 2) := by decide +kernel
theorem dX12_was_53 : decode cX12_was 53 = .ok (.ifCond .ge 6, 3) := by decide +kernel
theorem dX12_was_56 : decode cX12_was 56 = .ok (.iload 5, 2) := by decide +kernel
theorem dX12_was_58 : decode cX12_was 58 = .ok (.ireturn, 1) := by decide +kernel
theorem dX12_was_59 : decode cX12_was 59 = .ok (.iconst 0, 1) := by decide +kernel
theorem dX12_was_60 : decode cX12_was 60 = .ok (.istore 6, 2) := by decide +kernel
theorem dX12_was_62 : decode cX12_was 62 = .ok (.iconst 0, 1) := by decide +kernel
theorem dX12_was_63 : decode cX12_was 63 = .ok (.istore 7, 2) := by decide +kernel
theorem dX12_was_65 : decode cX12_was 65 = .ok (.iload 7, 2) := by decide +kernel
theorem dX12_was_67 : decode cX12_was 67 = .ok (.bipush 8, 2) := by decide +kernel
theorem dX12_was_69 : decode cX12_was 69 = .ok (.if_icmp .ge 95, 3) := by decide +kernel
theorem dX12_was_72 : decode cX12_was 72 = .ok (.iconst 1, 1) := by decide +kernel
theorem dX12_was_73 : decode cX12_was 73 = .ok (.istore 8, 2) := by decide +kernel
theorem dX12_was_75 : decode cX12_was 75 = .ok (.iconst 0, 1) := by decide +kernel
theorem dX12_was_76 : decode cX12_was 76 = .ok (.istore 9, 2) := by decide +kernel
theorem dX12_was_78 : decode cX12_was 78 = .ok (.iload 9, 2) := by decide +kernel
theorem dX12_was_80 : decode cX12_was 80 = .ok (.aload_n 0, 1) := by decide +kernel
theorem dX12_was_81 : decode cX12_was 81 = .ok (.getfield 37, 3) := by decide +kernel
theorem dX12_was_84 : decode cX12_was 84 = .ok (.iload_n 1, 1) := by decide +kernel
theorem dX12_was_85 : decode cX12_was 85 = .ok (.iaload, 1) := by decide +kernel
theorem dX12_was_86 : decode cX12_was 86 = .ok (.if_icmp .ge 54, 3) := by decide +kernel
theorem dX12_was_89 : decode cX12_was 89 = .ok (.iload 8, 2) := by decide +kernel
theorem dX12_was_91 : decode cX12_was 91 = .ok (.ifCond .eq 40, 3) := by decide +kernel
theorem dX12_was_94 : decode cX12_was 94 = .ok (.aload_n 0, 1) := by decide +kernel
theorem dX12_was_95 : decode cX12_was 95 = .ok (.getfield 40, 3) := by decide +kernel
theorem dX12_was_98 : decode cX12_was 98 = .ok (.bipush 100, 2) := by decide +kernel
theorem dX12_was_100 : decode cX12_was 100 = .ok (.iload_n 1, 1) := by decide +kernel
theorem dX12_was_101 : decode cX12_was 101 = .ok (.imul, 1) := by decide +kernel
theorem dX12_was_102 : decode cX12_was 102 = .ok (.iload 9, 2) := by decide +kernel
theorem dX12_was_104 : decode cX12_was 104 = .ok (.iadd, 1) := by decide +kernel
theorem dX12_was_105 : decode cX12_was 105 = .ok (.laload, 1) := by decide +kernel
theorem dX12_was_106 : decode cX12_was 106 = .ok (.iload_n 2, 1) := by decide +kernel
theorem dX12_was_107 : decode cX12_was 107 = .ok (.iload 9, 2) := by decide +kernel
theorem dX12_was_109 : decode cX12_was 109 = .ok (.iload 7, 2) := by decide +kernel
theorem dX12_was_111 : decode cX12_was 111 = .ok (.iload_n 3, 1) := by decide +kernel
theorem dX12_was_112 : decode cX12_was 112 = .ok (.invokestatic 88, 3) := by decide +kernel
theorem dX12_was_115 : decode cX12_was 115 = .ok (.imul, 1) := by decide +kernel
theorem dX12_was_116 : decode cX12_was 116 = .ok (.iadd, 1) := by decide +kernel
theorem dX12_was_117 : decode cX12_was 117 = .ok (.bipush 20, 2) := by decide +kernel
theorem dX12_was_119 : decode cX12_was 119 = .ok (.invokestatic 103, 3) := by decide +kernel
theorem dX12_was_122 : decode cX12_was 122 = .ok (.i2l, 1) := by decide +kernel
theorem dX12_was_123 : decode cX12_was 123 = .ok (.lcmp, 1) := by decide +kernel
theorem dX12_was_124 : decode cX12_was 124 = .ok (.ifCond .ne 7, 3) := by decide +kernel
theorem dX12_was_127 : decode cX12_was 127 = .ok (.iconst 1, 1) := by decide +kernel
theorem dX12_was_128 : decode cX12_was 128 = .ok (.goto 4, 3) := by decide +kernel
theorem dX12_was_131 : decode cX12_was 131 = .ok (.iconst 0, 1) := by decide +kernel
theorem dX12_was_132 : decode cX12_was 132 = .ok (.istore 8, 2) := by decide +kernel
theorem dX12_was_134 : decode cX12_was 134 = .ok (.iinc 9 1, 3) := by decide +kernel
theorem dX12_was_137 : decode cX12_was 137 = .ok (.goto (-59), 3) := by decide +kernel
theorem dX12_was_140 : decode cX12_was 140 = .ok (.iload 6, 2) := by decide +kernel
theorem dX12_was_142 : decode cX12_was 142 = .ok (.iload 8, 2) := by decide +kernel
theorem dX12_was_144 : decode cX12_was 144 = .ok (.ifCond .eq 10, 3) := by decide +kernel
theorem dX12_was_147 : decode cX12_was 147 = .ok (.iconst 1, 1) := by decide +kernel
theorem dX12_was_148 : decode cX12_was 148 = .ok (.iload 7, 2) := by decide +kernel
theorem dX12_was_150 : decode cX12_was 150 = .ok (.ishl, 1) := by decide +kernel
theorem dX12_was_151 : decode cX12_was 151 = .ok (.goto 4, 3) := by decide +kernel
theorem dX12_was_154 : decode cX12_was 154 = .ok (.iconst 0, 1) := by decide +kernel
theorem dX12_was_155 : decode cX12_was 155 = .ok (.ior, 1) := by decide +kernel
theorem dX12_was_156 : decode cX12_was 156 = .ok (.istore 6, 2) := by decide +kernel
theorem dX12_was_158 : decode cX12_was 158 = .ok (.iinc 7 1, 3) := by decide +kernel
theorem dX12_was_161 : decode cX12_was 161 = .ok (.goto (-96), 3) := by decide +kernel
theorem dX12_was_164 : decode cX12_was 164 = .ok (.iload 4, 2) := by decide +kernel
theorem dX12_was_166 : decode cX12_was 166 = .ok (.ifCond .ne 8, 3) := by decide +kernel
theorem dX12_was_169 : decode cX12_was 169 = .ok (.iload 6, 2) := by decide +kernel
theorem dX12_was_171 : decode cX12_was 171 = .ok (.goto 8, 3) := by decide +kernel
theorem dX12_was_174 : decode cX12_was 174 = .ok (.iload 6, 2) := by decide +kernel
theorem dX12_was_176 : decode cX12_was 176 = .ok (.invokestatic 282, 3) := by decide +kernel
theorem dX12_was_179 : decode cX12_was 179 = .ok (.ireturn, 1) := by decide +kernel
theorem dX12_daresOf_0 : decode cX12_daresOf 0 = .ok (.iload_n 2, 1) := by decide +kernel
theorem dX12_daresOf_1 : decode cX12_daresOf 1 = .ok (.ifCond .ne 14, 3) := by decide +kernel
theorem dX12_daresOf_4 : decode cX12_daresOf 4 = .ok (.iload_n 3, 1) := by decide +kernel
theorem dX12_daresOf_5 : decode cX12_daresOf 5 = .ok (.iconst 1, 1) := by decide +kernel
theorem dX12_daresOf_6 : decode cX12_daresOf 6 = .ok (.if_icmp .ne 7, 3) := by decide +kernel
theorem dX12_daresOf_9 : decode cX12_daresOf 9 = .ok (.iconst (-1), 1) := by decide +kernel
theorem dX12_daresOf_10 : decode cX12_daresOf 10 = .ok (.goto 4, 3) := by decide +kernel
theorem dX12_daresOf_13 : decode cX12_daresOf 13 = .ok (.iconst 0, 1) := by decide +kernel
theorem dX12_daresOf_14 : decode cX12_daresOf 14 = .ok (.ireturn, 1) := by decide +kernel
theorem dX12_daresOf_15 : decode cX12_daresOf 15 = .ok (.aload_n 0, 1) := by decide +kernel
theorem dX12_daresOf_16 : decode cX12_daresOf 16 = .ok (.getfield 19, 3) := by decide +kernel
theorem dX12_daresOf_19 : decode cX12_daresOf 19 = .ok (.iload_n 1, 1) := by decide +kernel
theorem dX12_daresOf_20 : decode cX12_daresOf 20 = .ok (.iaload, 1) := by decide +kernel
theorem dX12_daresOf_21 : decode cX12_daresOf 21 = .ok (.bipush 7, 2) := by decide +kernel
theorem dX12_daresOf_23 : decode cX12_daresOf 23 = .ok (.if_icmp .eq 11, 3) := by decide +kernel
theorem dX12_daresOf_26 : decode cX12_daresOf 26 = .ok (.aload_n 0, 1) := by decide +kernel
theorem dX12_daresOf_27 : decode cX12_daresOf 27 = .ok (.iload_n 1, 1) := by decide +kernel
theorem dX12_daresOf_28 : decode cX12_daresOf 28 = .ok (.invokevirtual 109, 3) := by decide +kernel
theorem dX12_daresOf_31 : decode cX12_daresOf 31 = .ok (.ifCond .eq 7, 3) := by decide +kernel
theorem dX12_daresOf_34 : decode cX12_daresOf 34 = .ok (.iconst 1, 1) := by decide +kernel
theorem dX12_daresOf_35 : decode cX12_daresOf 35 = .ok (.goto 4, 3) := by decide +kernel
theorem dX12_daresOf_38 : decode cX12_daresOf 38 = .ok (.iconst 0, 1) := by decide +kernel
theorem dX12_daresOf_39 : decode cX12_daresOf 39 = .ok (.istore 4, 2) := by decide +kernel
theorem dX12_daresOf_41 : decode cX12_daresOf 41 = .ok (.iload_n 3, 1) := by decide +kernel
theorem dX12_daresOf_42 : decode cX12_daresOf 42 = .ok (.iconst 1, 1) := by decide +kernel
theorem dX12_daresOf_43 : decode cX12_daresOf 43 = .ok (.if_icmp .ne 7, 3) := by decide +kernel
theorem dX12_daresOf_46 : decode cX12_daresOf 46 = .ok (.iconst 2, 1) := by decide +kernel
theorem dX12_daresOf_47 : decode cX12_daresOf 47 = .ok (.goto 4, 3) := by decide +kernel
theorem dX12_daresOf_50 : decode cX12_daresOf 50 = .ok (.iconst 1, 1) := by decide +kernel
theorem dX12_daresOf_51 : decode cX12_daresOf 51 = .ok (.iload 4, 2) := by decide +kernel
theorem dX12_daresOf_53 : decode cX12_daresOf 53 = .ok (.ifCond .eq 7, 3) := by decide +kernel
theorem dX12_daresOf_56 : decode cX12_daresOf 56 = .ok (.iconst 0, 1) := by decide +kernel
theorem dX12_daresOf_57 : decode cX12_daresOf 57 = .ok (.goto 8, 3) := by decide +kernel
theorem dX12_daresOf_60 : decode cX12_daresOf 60 = .ok (.aload_n 0, 1) := by decide +kernel
theorem dX12_daresOf_61 : decode cX12_daresOf 61 = .ok (.iload_n 1, 1) := by decide +kernel
theorem dX12_daresOf_62 : decode cX12_daresOf 62 = .ok (.invokevirtual 116, 3) := by decide +kernel
theorem dX12_daresOf_65 : decode cX12_daresOf 65 = .ok (.isub, 1) := by decide +kernel
theorem dX12_daresOf_66 : decode cX12_daresOf 66 = .ok (.ireturn, 1) := by decide +kernel
theorem dX12_dare_0 : decode cX12_dare 0 = .ok (.aload_n 0, 1) := by decide +kernel
theorem dX12_dare_1 : decode cX12_dare 1 = .ok (.iconst 0, 1) := by decide +kernel
theorem dX12_dare_2 : decode cX12_dare 2 = .ok (.putfield 77, 3) := by decide +kernel
theorem dX12_dare_5 : decode cX12_dare 5 = .ok (.aload_n 0, 1) := by decide +kernel
theorem dX12_dare_6 : decode cX12_dare 6 = .ok (.iload_n 1, 1) := by decide +kernel
theorem dX12_dare_7 : decode cX12_dare 7 = .ok (.invokevirtual 99, 3) := by decide +kernel
theorem dX12_dare_10 : decode cX12_dare 10 = .ok (.ifCond .eq 16, 3) := by decide +kernel
theorem dX12_dare_13 : decode cX12_dare 13 = .ok (.aload_n 0, 1) := by decide +kernel
theorem dX12_dare_14 : decode cX12_dare 14 = .ok (.iload_n 2, 1) := by decide +kernel
theorem dX12_dare_15 : decode cX12_dare 15 = .ok (.invokevirtual 99, 3) := by decide +kernel
theorem dX12_dare_18 : decode cX12_dare 18 = .ok (.ifCond .eq 8, 3) := by decide +kernel
theorem dX12_dare_21 : decode cX12_dare 21 = .ok (.iload_n 1, 1) := by decide +kernel
theorem dX12_dare_22 : decode cX12_dare 22 = .ok (.iload_n 2, 1) := by decide +kernel
theorem dX12_dare_23 : decode cX12_dare 23 = .ok (.if_icmp .ne 5, 3) := by decide +kernel
theorem dX12_dare_26 : decode cX12_dare 26 = .ok (.iconst (-1), 1) := by decide +kernel
theorem dX12_dare_27 : decode cX12_dare 27 = .ok (.ireturn, 1) := by decide +kernel
theorem dX12_dare_28 : decode cX12_dare 28 = .ok (.iconst 0, 1) := by decide +kernel
theorem dX12_dare_29 : decode cX12_dare 29 = .ok (.istore_n 3, 1) := by decide +kernel
theorem dX12_dare_30 : decode cX12_dare 30 = .ok (.iload_n 3, 1) := by decide +kernel
theorem dX12_dare_31 : decode cX12_dare 31 = .ok (.iconst 4, 1) := by decide +kernel
theorem dX12_dare_32 : decode cX12_dare 32 = .ok (.if_icmp .ge 86, 3) := by decide +kernel
theorem dX12_dare_35 : decode cX12_dare 35 = .ok (.iload_n 3, 1) := by decide +kernel
theorem dX12_dare_36 : decode cX12_dare 36 = .ok (.iconst 2, 1) := by decide +kernel
theorem dX12_dare_37 : decode cX12_dare 37 = .ok (.idiv, 1) := by decide +kernel
theorem dX12_dare_38 : decode cX12_dare 38 = .ok (.istore 4, 2) := by decide +kernel
theorem dX12_dare_40 : decode cX12_dare 40 = .ok (.iload_n 3, 1) := by decide +kernel
theorem dX12_dare_41 : decode cX12_dare 41 = .ok (.iconst 2, 1) := by decide +kernel
theorem dX12_dare_42 : decode cX12_dare 42 = .ok (.irem, 1) := by decide +kernel
theorem dX12_dare_43 : decode cX12_dare 43 = .ok (.istore 5, 2) := by decide +kernel
theorem dX12_dare_45 : decode cX12_dare 45 = .ok (.aload_n 0, 1) := by decide +kernel
theorem dX12_dare_46 : decode cX12_dare 46 = .ok (.iload_n 1, 1) := by decide +kernel
theorem dX12_dare_47 : decode cX12_dare 47 = .ok (.iconst 1, 1) := by decide +kernel
theorem dX12_dare_48 : decode cX12_dare 48 = .ok (.iload 4, 2) := by decide +kernel
theorem dX12_dare_50 : decode cX12_dare 50 = .ok (.isub, 1) := by decide +kernel
theorem dX12_dare_51 : decode cX12_dare 51 = .ok (.iload 5, 2) := by decide +kernel
theorem dX12_dare_53 : decode cX12_dare 53 = .ok (.invokevirtual 310, 3) := by decide +kernel
theorem dX12_dare_56 : decode cX12_dare 56 = .ok (.aload_n 0, 1) := by decide +kernel
theorem dX12_dare_57 : decode cX12_dare 57 = .ok (.iload_n 1, 1) := by decide +kernel
theorem dX12_dare_58 : decode cX12_dare 58 = .ok (.iload 4, 2) := by decide +kernel
theorem dX12_dare_60 : decode cX12_dare 60 = .ok (.iload 5, 2) := by decide +kernel
theorem dX12_dare_62 : decode cX12_dare 62 = .ok (.invokevirtual 310, 3) := by decide +kernel
theorem dX12_dare_65 : decode cX12_dare 65 = .ok (.if_icmp .gt 30, 3) := by decide +kernel
theorem dX12_dare_68 : decode cX12_dare 68 = .ok (.aload_n 0, 1) := by decide +kernel
theorem dX12_dare_69 : decode cX12_dare 69 = .ok (.iload_n 2, 1) := by decide +kernel
theorem dX12_dare_70 : decode cX12_dare 70 = .ok (.iconst 1, 1) := by decide +kernel
theorem dX12_dare_71 : decode cX12_dare 71 = .ok (.iload 5, 2) := by decide +kernel
theorem dX12_dare_73 : decode cX12_dare 73 = .ok (.isub, 1) := by decide +kernel
theorem dX12_dare_74 : decode cX12_dare 74 = .ok (.iload 4, 2) := by decide +kernel
theorem dX12_dare_76 : decode cX12_dare 76 = .ok (.invokevirtual 310, 3) := by decide +kernel
theorem dX12_dare_79 : decode cX12_dare 79 = .ok (.aload_n 0, 1) := by decide +kernel
theorem dX12_dare_80 : decode cX12_dare 80 = .ok (.iload_n 2, 1) := by decide +kernel
theorem dX12_dare_81 : decode cX12_dare 81 = .ok (.iload 5, 2) := by decide +kernel
theorem dX12_dare_83 : decode cX12_dare 83 = .ok (.iload 4, 2) := by decide +kernel
theorem dX12_dare_85 : decode cX12_dare 85 = .ok (.invokevirtual 310, 3) := by decide +kernel
theorem dX12_dare_88 : decode cX12_dare 88 = .ok (.if_icmp .gt 7, 3) := by decide +kernel
theorem dX12_dare_91 : decode cX12_dare 91 = .ok (.iconst 1, 1) := by decide +kernel
theorem dX12_dare_92 : decode cX12_dare 92 = .ok (.goto 4, 3) := by decide +kernel
theorem dX12_dare_95 : decode cX12_dare 95 = .ok (.iconst 0, 1) := by decide +kernel
theorem dX12_dare_96 : decode cX12_dare 96 = .ok (.istore 6, 2) := by decide +kernel
theorem dX12_dare_98 : decode cX12_dare 98 = .ok (.iload 6, 2) := by decide +kernel
theorem dX12_dare_100 : decode cX12_dare 100 = .ok (.ifCond .eq 12, 3) := by decide +kernel
theorem dX12_dare_103 : decode cX12_dare 103 = .ok (.bipush 10, 2) := by decide +kernel
theorem dX12_dare_105 : decode cX12_dare 105 = .ok (.iload 4, 2) := by decide +kernel
theorem dX12_dare_107 : decode cX12_dare 107 = .ok (.imul, 1) := by decide +kernel
theorem dX12_dare_108 : decode cX12_dare 108 = .ok (.iload 5, 2) := by decide +kernel
theorem dX12_dare_110 : decode cX12_dare 110 = .ok (.iadd, 1) := by decide +kernel
theorem dX12_dare_111 : decode cX12_dare 111 = .ok (.ireturn, 1) := by decide +kernel
theorem dX12_dare_112 : decode cX12_dare 112 = .ok (.iinc 3 1, 3) := by decide +kernel
theorem dX12_dare_115 : decode cX12_dare 115 = .ok (.goto (-85), 3) := by decide +kernel
theorem dX12_dare_118 : decode cX12_dare 118 = .ok (.bipush (-4), 2) := by decide +kernel
theorem dX12_dare_120 : decode cX12_dare 120 = .ok (.ireturn, 1) := by decide +kernel
theorem dX12_group_0 : decode cX12_group 0 = .ok (.aload_n 0, 1) := by decide +kernel
theorem dX12_group_1 : decode cX12_group 1 = .ok (.iconst 0, 1) := by decide +kernel
theorem dX12_group_2 : decode cX12_group 2 = .ok (.putfield 77, 3) := by decide +kernel
theorem dX12_group_5 : decode cX12_group 5 = .ok (.iload_n 1, 1) := by decide +kernel
theorem dX12_group_6 : decode cX12_group 6 = .ok (.i2l, 1) := by decide +kernel
theorem dX12_group_7 : decode cX12_group 7 = .ok (.lconst 0, 1) := by decide +kernel
theorem dX12_group_8 : decode cX12_group 8 = .ok (.ldc2_w 313, 3) := by decide +kernel
theorem dX12_group_11 : decode cX12_group 11 = .ok (.invokestatic 84, 3) := by decide +kernel
theorem dX12_group_14 : decode cX12_group 14 = .ok (.ifCond .eq 13, 3) := by decide +kernel
theorem dX12_group_17 : decode cX12_group 17 = .ok (.iload_n 2, 1) := by decide +kernel
theorem dX12_group_18 : decode cX12_group 18 = .ok (.i2l, 1) := by decide +kernel
theorem dX12_group_19 : decode cX12_group 19 = .ok (.lconst 0, 1) := by decide +kernel
theorem dX12_group_20 : decode cX12_group 20 = .ok (.lconst 1, 1) := by decide +kernel
theorem dX12_group_21 : decode cX12_group 21 = .ok (.invokestatic 84, 3) := by decide +kernel
theorem dX12_group_24 : decode cX12_group 24 = .ok (.ifCond .ne 5, 3) := by decide +kernel
theorem dX12_group_27 : decode cX12_group 27 = .ok (.iconst (-1), 1) := by decide +kernel
theorem dX12_group_28 : decode cX12_group 28 = .ok (.ireturn, 1) := by decide +kernel
theorem dX12_group_29 : decode cX12_group 29 = .ok (.iconst 0, 1) := by decide +kernel
theorem dX12_group_30 : decode cX12_group 30 = .ok (.istore_n 3, 1) := by decide +kernel
theorem dX12_group_31 : decode cX12_group 31 = .ok (.iconst 1, 1) := by decide +kernel
theorem dX12_group_32 : decode cX12_group 32 = .ok (.istore 4, 2) := by decide +kernel
theorem dX12_group_34 : decode cX12_group 34 = .ok (.iload 4, 2) := by decide +kernel
theorem dX12_group_36 : decode cX12_group 36 = .ok (.iconst 1, 1) := by decide +kernel
theorem dX12_group_37 : decode cX12_group 37 = .ok (.aload_n 0, 1) := by decide +kernel
theorem dX12_group_38 : decode cX12_group 38 = .ok (.getfield 81, 3) := by decide +kernel
theorem dX12_group_41 : decode cX12_group 41 = .ok (.ishl, 1) := by decide +kernel
theorem dX12_group_42 : decode cX12_group 42 = .ok (.if_icmp .ge 80, 3) := by decide +kernel
theorem dX12_group_45 : decode cX12_group 45 = .ok (.iconst 0, 1) := by decide +kernel
theorem dX12_group_46 : decode cX12_group 46 = .ok (.istore 5, 2) := by decide +kernel
theorem dX12_group_48 : decode cX12_group 48 = .ok (.iconst 0, 1) := by decide +kernel
theorem dX12_group_49 : decode cX12_group 49 = .ok (.istore 6, 2) := by decide +kernel
theorem dX12_group_51 : decode cX12_group 51 = .ok (.iload 6, 2) := by decide +kernel
theorem dX12_group_53 : decode cX12_group 53 = .ok (.aload_n 0, 1) := by decide +kernel
theorem dX12_group_54 : decode cX12_group 54 = .ok (.getfield 81, 3) := by decide +kernel
theorem dX12_group_57 : decode cX12_group 57 = .ok (.if_icmp .ge 34, 3) := by decide +kernel
theorem dX12_group_60 : decode cX12_group 60 = .ok (.iload 5, 2) := by decide +kernel
theorem dX12_group_62 : decode cX12_group 62 = .ok (.iload 4, 2) := by decide +kernel
theorem dX12_group_64 : decode cX12_group 64 = .ok (.iload 6, 2) := by decide +kernel
theorem dX12_group_66 : decode cX12_group 66 = .ok (.invokestatic 288, 3) := by decide +kernel
theorem dX12_group_69 : decode cX12_group 69 = .ok (.ifCond .eq 12, 3) := by decide +kernel
theorem dX12_group_72 : decode cX12_group 72 = .ok (.aload_n 0, 1) := by decide +kernel
theorem dX12_group_73 : decode cX12_group 73 = .ok (.iload 6, 2) := by decide +kernel
theorem dX12_group_75 : decode cX12_group 75 = .ok (.invokevirtual 122, 3) := by decide +kernel
theorem dX12_group_78 : decode cX12_group 78 = .ok (.goto 4, 3) := by decide +kernel
theorem dX12_group_81 : decode cX12_group 81 = .ok (.iconst 0, 1) := by decide +kernel
theorem dX12_group_82 : decode cX12_group 82 = .ok (.iadd, 1) := by decide +kernel
theorem dX12_group_83 : decode cX12_group 83 = .ok (.istore 5, 2) := by decide +kernel
theorem dX12_group_85 : decode cX12_group 85 = .ok (.iinc 6 1, 3) := by decide +kernel
theorem dX12_group_88 : decode cX12_group 88 = .ok (.goto (-37), 3) := by decide +kernel
theorem dX12_group_91 : decode cX12_group 91 = .ok (.iload 5, 2) := by decide +kernel
theorem dX12_group_93 : decode cX12_group 93 = .ok (.iload_n 1, 1) := by decide +kernel
theorem dX12_group_94 : decode cX12_group 94 = .ok (.if_icmp .gt 20, 3) := by decide +kernel
theorem dX12_group_97 : decode cX12_group 97 = .ok (.iload 4, 2) := by decide +kernel
theorem dX12_group_99 : decode cX12_group 99 = .ok (.invokestatic 282, 3) := by decide +kernel
theorem dX12_group_102 : decode cX12_group 102 = .ok (.iload_n 3, 1) := by decide +kernel
theorem dX12_group_103 : decode cX12_group 103 = .ok (.invokestatic 282, 3) := by decide +kernel
theorem dX12_group_106 : decode cX12_group 106 = .ok (.if_icmp .le 8, 3) := by decide +kernel
theorem dX12_group_109 : decode cX12_group 109 = .ok (.iload 4, 2) := by decide +kernel
theorem dX12_group_111 : decode cX12_group 111 = .ok (.goto 4, 3) := by decide +kernel
theorem dX12_group_114 : decode cX12_group 114 = .ok (.iload_n 3, 1) := by decide +kernel
theorem dX12_group_115 : decode cX12_group 115 = .ok (.istore_n 3, 1) := by decide +kernel
theorem dX12_group_116 : decode cX12_group 116 = .ok (.iinc 4 1, 3) := by decide +kernel
theorem dX12_group_119 : decode cX12_group 119 = .ok (.goto (-85), 3) := by decide +kernel
theorem dX12_group_122 : decode cX12_group 122 = .ok (.iload_n 2, 1) := by decide +kernel
theorem dX12_group_123 : decode cX12_group 123 = .ok (.ifCond .ne 7, 3) := by decide +kernel
theorem dX12_group_126 : decode cX12_group 126 = .ok (.iload_n 3, 1) := by decide +kernel
theorem dX12_group_127 : decode cX12_group 127 = .ok (.goto 7, 3) := by decide +kernel
theorem dX12_group_130 : decode cX12_group 130 = .ok (.iload_n 3, 1) := by decide +kernel
theorem dX12_group_131 : decode cX12_group 131 = .ok (.invokestatic 282, 3) := by decide +kernel
theorem dX12_group_134 : decode cX12_group 134 = .ok (.ireturn, 1) := by decide +kernel
theorem dX12_forget_0 : decode cX12_forget 0 = .ok (.aload_n 0, 1) := by decide +kernel
theorem dX12_forget_1 : decode cX12_forget 1 = .ok (.iconst 0, 1) := by decide +kernel
theorem dX12_forget_2 : decode cX12_forget 2 = .ok (.putfield 77, 3) := by decide +kernel
theorem dX12_forget_5 : decode cX12_forget 5 = .ok (.bipush (-4), 2) := by decide +kernel
theorem dX12_forget_7 : decode cX12_forget 7 = .ok (.istore_n 1, 1) := by decide +kernel
theorem dX12_forget_8 : decode cX12_forget 8 = .ok (.bipush 9, 2) := by decide +kernel
theorem dX12_forget_10 : decode cX12_forget 10 = .ok (.istore_n 2, 1) := by decide +kernel
theorem dX12_forget_11 : decode cX12_forget 11 = .ok (.iload_n 2, 1) := by decide +kernel
theorem dX12_forget_12 : decode cX12_forget 12 = .ok (.ifCond .lt 35, 3) := by decide +kernel
theorem dX12_forget_15 : decode cX12_forget 15 = .ok (.aload_n 0, 1) := by decide +kernel
theorem dX12_forget_16 : decode cX12_forget 16 = .ok (.invokevirtual 195, 3) := by decide +kernel
theorem dX12_forget_19 : decode cX12_forget 19 = .ok (.aload_n 0, 1) := by decide +kernel
theorem dX12_forget_20 : decode cX12_forget 20 = .ok (.iload_n 2, 1) := by decide +kernel
theorem dX12_forget_21 : decode cX12_forget 21 = .ok (.invokevirtual 183, 3) := by decide +kernel
theorem dX12_forget_24 : decode cX12_forget 24 = .ok (.aload_n 0, 1) := by decide +kernel
theorem dX12_forget_25 : decode cX12_forget 25 = .ok (.invokevirtual 237, 3) := by decide +kernel
theorem dX12_forget_28 : decode cX12_forget 28 = .ok (.ifCond .ne 7, 3) := by decide +kernel
theorem dX12_forget_31 : decode cX12_forget 31 = .ok (.iload_n 2, 1) := by decide +kernel
theorem dX12_forget_32 : decode cX12_forget 32 = .ok (.goto 4, 3) := by decide +kernel
theorem dX12_forget_35 : decode cX12_forget 35 = .ok (.iload_n 1, 1) := by decide +kernel
theorem dX12_forget_36 : decode cX12_forget 36 = .ok (.istore_n 1, 1) := by decide +kernel
theorem dX12_forget_37 : decode cX12_forget 37 = .ok (.aload_n 0, 1) := by decide +kernel
theorem dX12_forget_38 : decode cX12_forget 38 = .ok (.invokevirtual 201, 3) := by decide +kernel
theorem dX12_forget_41 : decode cX12_forget 41 = .ok (.iinc 2 (-1), 3) := by decide +kernel
theorem dX12_forget_44 : decode cX12_forget 44 = .ok (.goto (-33), 3) := by decide +kernel
theorem dX12_forget_47 : decode cX12_forget 47 = .ok (.iload_n 1, 1) := by decide +kernel
theorem dX12_forget_48 : decode cX12_forget 48 = .ok (.ireturn, 1) := by decide +kernel
theorem dX12_coldest_0 : decode cX12_coldest 0 = .ok (.aload_n 0, 1) := by decide +kernel
theorem dX12_coldest_1 : decode cX12_coldest 1 = .ok (.iconst 0, 1) := by decide +kernel
theorem dX12_coldest_2 : decode cX12_coldest 2 = .ok (.putfield 77, 3) := by decide +kernel
theorem dX12_coldest_5 : decode cX12_coldest 5 = .ok (.aload_n 0, 1) := by decide +kernel
theorem dX12_coldest_6 : decode cX12_coldest 6 = .ok (.iload_n 1, 1) := by decide +kernel
theorem dX12_coldest_7 : decode cX12_coldest 7 = .ok (.invokevirtual 99, 3) := by decide +kernel
theorem dX12_coldest_10 : decode cX12_coldest 10 = .ok (.ifCond .eq 15, 3) := by decide +kernel
theorem dX12_coldest_13 : decode cX12_coldest 13 = .ok (.iload_n 2, 1) := by decide +kernel
theorem dX12_coldest_14 : decode cX12_coldest 14 = .ok (.i2l, 1) := by decide +kernel
theorem dX12_coldest_15 : decode cX12_coldest 15 = .ok (.lconst 0, 1) := by decide +kernel
theorem dX12_coldest_16 : decode cX12_coldest 16 = .ok (.ldc2_w 315, 3) := by decide +kernel
theorem dX12_coldest_19 : decode cX12_coldest 19 = .ok (.invokestatic 84, 3) := by decide +kernel
theorem dX12_coldest_22 : decode cX12_coldest 22 = .ok (.ifCond .ne 5, 3) := by decide +kernel
theorem dX12_coldest_25 : decode cX12_coldest 25 = .ok (.iconst (-1), 1) := by decide +kernel
theorem dX12_coldest_26 : decode cX12_coldest 26 = .ok (.ireturn, 1) := by decide +kernel
theorem dX12_coldest_27 : decode cX12_coldest 27 = .ok (.iconst 0, 1) := by decide +kernel
theorem dX12_coldest_28 : decode cX12_coldest 28 = .ok (.istore_n 3, 1) := by decide +kernel
theorem dX12_coldest_29 : decode cX12_coldest 29 = .ok (.iconst 0, 1) := by decide +kernel
theorem dX12_coldest_30 : decode cX12_coldest 30 = .ok (.istore 4, 2) := by decide +kernel
theorem dX12_coldest_32 : decode cX12_coldest 32 = .ok (.iload 4, 2) := by decide +kernel
theorem dX12_coldest_34 : decode cX12_coldest 34 = .ok (.aload_n 0, 1) := by decide +kernel
theorem dX12_coldest_35 : decode cX12_coldest 35 = .ok (.getfield 81, 3) := by decide +kernel
theorem dX12_coldest_38 : decode cX12_coldest 38 = .ok (.if_icmp .ge 58, 3) := by decide +kernel
theorem dX12_coldest_41 : decode cX12_coldest 41 = .ok (.iload_n 3, 1) := by decide +kernel
theorem dX12_coldest_42 : decode cX12_coldest 42 = .ok (.iload 4, 2) := by decide +kernel
theorem dX12_coldest_44 : decode cX12_coldest 44 = .ok (.iload_n 1, 1) := by decide +kernel
theorem dX12_coldest_45 : decode cX12_coldest 45 = .ok (.if_icmp .eq 42, 3) := by decide +kernel
theorem dX12_coldest_48 : decode cX12_coldest 48 = .ok (.aload_n 0, 1) := by decide +kernel
theorem dX12_coldest_49 : decode cX12_coldest 49 = .ok (.getfield 19, 3) := by decide +kernel
theorem dX12_coldest_52 : decode cX12_coldest 52 = .ok (.iload 4, 2) := by decide +kernel
theorem dX12_coldest_54 : decode cX12_coldest 54 = .ok (.iaload, 1) := by decide +kernel
theorem dX12_coldest_55 : decode cX12_coldest 55 = .ok (.bipush 7, 2) := by decide +kernel
theorem dX12_coldest_57 : decode cX12_coldest 57 = .ok (.if_icmp .ge 30, 3) := by decide +kernel
theorem dX12_coldest_60 : decode cX12_coldest 60 = .ok (.aload_n 0, 1) := by decide +kernel
theorem dX12_coldest_61 : decode cX12_coldest 61 = .ok (.getfield 22, 3) := by decide +kernel
theorem dX12_coldest_64 : decode cX12_coldest 64 = .ok (.iload 4, 2) := by decide +kernel
theorem dX12_coldest_66 : decode cX12_coldest 66 = .ok (.iaload, 1) := by decide +kernel
theorem dX12_coldest_67 : decode cX12_coldest 67 = .ok (.iload_n 2, 1) := by decide +kernel
theorem dX12_coldest_68 : decode cX12_coldest 68 = .ok (.iadd, 1) := by decide +kernel
theorem dX12_coldest_69 : decode cX12_coldest 69 = .ok (.bipush 20, 2) := by decide +kernel
theorem dX12_coldest_71 : decode cX12_coldest 71 = .ok (.invokestatic 103, 3) := by decide +kernel
theorem dX12_coldest_74 : decode cX12_coldest 74 = .ok (.aload_n 0, 1) := by decide +kernel
theorem dX12_coldest_75 : decode cX12_coldest 75 = .ok (.iload 4, 2) := by decide +kernel
theorem dX12_coldest_77 : decode cX12_coldest 77 = .ok (.invokevirtual 119, 3) := by decide +kernel
theorem dX12_coldest_80 : decode cX12_coldest 80 = .ok (.if_icmp .le 7, 3) := by decide +kernel
theorem dX12_coldest_83 : decode cX12_coldest 83 = .ok (.iconst 1, 1) := by decide +kernel
theorem dX12_coldest_84 : decode cX12_coldest 84 = .ok (.goto 4, 3) := by decide +kernel
theorem dX12_coldest_87 : decode cX12_coldest 87 = .ok (.iconst 0, 1) := by decide +kernel
theorem dX12_coldest_88 : decode cX12_coldest 88 = .ok (.iadd, 1) := by decide +kernel
theorem dX12_coldest_89 : decode cX12_coldest 89 = .ok (.istore_n 3, 1) := by decide +kernel
theorem dX12_coldest_90 : decode cX12_coldest 90 = .ok (.iinc 4 1, 3) := by decide +kernel
theorem dX12_coldest_93 : decode cX12_coldest 93 = .ok (.goto (-61), 3) := by decide +kernel
theorem dX12_coldest_96 : decode cX12_coldest 96 = .ok (.iload_n 3, 1) := by decide +kernel
theorem dX12_coldest_97 : decode cX12_coldest 97 = .ok (.ireturn, 1) := by decide +kernel
theorem dX12_last_0 : decode cX12_last 0 = .ok (.aload_n 0, 1) := by decide +kernel
theorem dX12_last_1 : decode cX12_last 1 = .ok (.iconst 0, 1) := by decide +kernel
theorem dX12_last_2 : decode cX12_last 2 = .ok (.putfield 77, 3) := by decide +kernel
theorem dX12_last_5 : decode cX12_last 5 = .ok (.bipush (-4), 2) := by decide +kernel
theorem dX12_last_7 : decode cX12_last 7 = .ok (.istore_n 1, 1) := by decide +kernel
theorem dX12_last_8 : decode cX12_last 8 = .ok (.iconst 0, 1) := by decide +kernel
theorem dX12_last_9 : decode cX12_last 9 = .ok (.istore_n 2, 1) := by decide +kernel
theorem dX12_last_10 : decode cX12_last 10 = .ok (.iload_n 2, 1) := by decide +kernel
theorem dX12_last_11 : decode cX12_last 11 = .ok (.aload_n 0, 1) := by decide +kernel
theorem dX12_last_12 : decode cX12_last 12 = .ok (.getfield 81, 3) := by decide +kernel
theorem dX12_last_15 : decode cX12_last 15 = .ok (.if_icmp .ge 74, 3) := by decide +kernel
theorem dX12_last_18 : decode cX12_last 18 = .ok (.iload_n 1, 1) := by decide +kernel
theorem dX12_last_19 : decode cX12_last 19 = .ok (.ifCond .lt 18, 3) := by decide +kernel
theorem dX12_last_22 : decode cX12_last 22 = .ok (.aload_n 0, 1) := by decide +kernel
theorem dX12_last_23 : decode cX12_last 23 = .ok (.getfield 19, 3) := by decide +kernel
theorem dX12_last_26 : decode cX12_last 26 = .ok (.iload_n 2, 1) := by decide +kernel
theorem dX12_last_27 : decode cX12_last 27 = .ok (.iaload, 1) := by decide +kernel
theorem dX12_last_28 : decode cX12_last 28 = .ok (.aload_n 0, 1) := by decide +kernel
theorem dX12_last_29 : decode cX12_last 29 = .ok (.getfield 19, 3) := by decide +kernel
theorem dX12_last_32 : decode cX12_last 32 = .ok (.iload_n 1, 1) := by decide +kernel
theorem dX12_last_33 : decode cX12_last 33 = .ok (.iaload, 1) := by decide +kernel
theorem dX12_last_34 : decode cX12_last 34 = .ok (.if_icmp .ge 7, 3) := by decide +kernel
theorem dX12_last_37 : decode cX12_last 37 = .ok (.iconst 1, 1) := by decide +kernel
theorem dX12_last_38 : decode cX12_last 38 = .ok (.goto 4, 3) := by decide +kernel
theorem dX12_last_41 : decode cX12_last 41 = .ok (.iconst 0, 1) := by decide +kernel
theorem dX12_last_42 : decode cX12_last 42 = .ok (.istore_n 3, 1) := by decide +kernel
theorem dX12_last_43 : decode cX12_last 43 = .ok (.iload_n 3, 1) := by decide +kernel
theorem dX12_last_44 : decode cX12_last 44 = .ok (.ifCond .ne 33, 3) := by decide +kernel
theorem dX12_last_47 : decode cX12_last 47 = .ok (.aload_n 0, 1) := by decide +kernel
theorem dX12_last_48 : decode cX12_last 48 = .ok (.getfield 19, 3) := by decide +kernel
theorem dX12_last_51 : decode cX12_last 51 = .ok (.iload_n 2, 1) := by decide +kernel
theorem dX12_last_52 : decode cX12_last 52 = .ok (.iaload, 1) := by decide +kernel
theorem dX12_last_53 : decode cX12_last 53 = .ok (.aload_n 0, 1) := by decide +kernel
theorem dX12_last_54 : decode cX12_last 54 = .ok (.getfield 19, 3) := by decide +kernel
theorem dX12_last_57 : decode cX12_last 57 = .ok (.iload_n 1, 1) := by decide +kernel
theorem dX12_last_58 : decode cX12_last 58 = .ok (.iaload, 1) := by decide +kernel
theorem dX12_last_59 : decode cX12_last 59 = .ok (.if_icmp .ne 22, 3) := by decide +kernel
theorem dX12_last_62 : decode cX12_last 62 = .ok (.aload_n 0, 1) := by decide +kernel
theorem dX12_last_63 : decode cX12_last 63 = .ok (.getfield 16, 3) := by decide +kernel
theorem dX12_last_66 : decode cX12_last 66 = .ok (.iload_n 2, 1) := by decide +kernel
theorem dX12_last_67 : decode cX12_last 67 = .ok (.iaload, 1) := by decide +kernel
theorem dX12_last_68 : decode cX12_last 68 = .ok (.aload_n 0, 1) := by decide +kernel
theorem dX12_last_69 : decode cX12_last 69 = .ok (.getfield 16, 3) := by decide +kernel
theorem dX12_last_72 : decode cX12_last 72 = .ok (.iload_n 1, 1) := by decide +kernel
theorem dX12_last_73 : decode cX12_last 73 = .ok (.iaload, 1) := by decide +kernel
theorem dX12_last_74 : decode cX12_last 74 = .ok (.if_icmp .ge 7, 3) := by decide +kernel
theorem dX12_last_77 : decode cX12_last 77 = .ok (.iload_n 2, 1) := by decide +kernel
theorem dX12_last_78 : decode cX12_last 78 = .ok (.goto 4, 3) := by decide +kernel
theorem dX12_last_81 : decode cX12_last 81 = .ok (.iload_n 1, 1) := by decide +kernel
theorem dX12_last_82 : decode cX12_last 82 = .ok (.istore_n 1, 1) := by decide +kernel
theorem dX12_last_83 : decode cX12_last 83 = .ok (.iinc 2 1, 3) := by decide +kernel
theorem dX12_last_86 : decode cX12_last 86 = .ok (.goto (-76), 3) := by decide +kernel
theorem dX12_last_89 : decode cX12_last 89 = .ok (.iload_n 1, 1) := by decide +kernel
theorem dX12_last_90 : decode cX12_last 90 = .ok (.ireturn, 1) := by decide +kernel
theorem dX12_mean_0 : decode cX12_mean 0 = .ok (.aload_n 0, 1) := by decide +kernel
theorem dX12_mean_1 : decode cX12_mean 1 = .ok (.iconst 0, 1) := by decide +kernel
theorem dX12_mean_2 : decode cX12_mean 2 = .ok (.putfield 77, 3) := by decide +kernel
theorem dX12_mean_5 : decode cX12_mean 5 = .ok (.iload_n 1, 1) := by decide +kernel
theorem dX12_mean_6 : decode cX12_mean 6 = .ok (.i2l, 1) := by decide +kernel
theorem dX12_mean_7 : decode cX12_mean 7 = .ok (.lconst 0, 1) := by decide +kernel
theorem dX12_mean_8 : decode cX12_mean 8 = .ok (.lconst 1, 1) := by decide +kernel
theorem dX12_mean_9 : decode cX12_mean 9 = .ok (.invokestatic 84, 3) := by decide +kernel
theorem dX12_mean_12 : decode cX12_mean 12 = .ok (.ifCond .eq 20, 3) := by decide +kernel
theorem dX12_mean_15 : decode cX12_mean 15 = .ok (.aload_n 0, 1) := by decide +kernel
theorem dX12_mean_16 : decode cX12_mean 16 = .ok (.invokevirtual 234, 3) := by decide +kernel
theorem dX12_mean_19 : decode cX12_mean 19 = .ok (.i2l, 1) := by decide +kernel
theorem dX12_mean_20 : decode cX12_mean 20 = .ok (.aload_n 0, 1) := by decide +kernel
theorem dX12_mean_21 : decode cX12_mean 21 = .ok (.getfield 81, 3) := by decide +kernel
theorem dX12_mean_24 : decode cX12_mean 24 = .ok (.i2l, 1) := by decide +kernel
theorem dX12_mean_25 : decode cX12_mean 25 = .ok (.iload_n 1, 1) := by decide +kernel
theorem dX12_mean_26 : decode cX12_mean 26 = .ok (.invokestatic 306, 3) := by decide +kernel
theorem dX12_mean_29 : decode cX12_mean 29 = .ok (.goto 6, 3) := by decide +kernel
theorem dX12_mean_32 : decode cX12_mean 32 = .ok (.ldc2_w 304, 3) := by decide +kernel
theorem dX12_mean_35 : decode cX12_mean 35 = .ok (.lreturn, 1) := by decide +kernel
theorem dX12_forged_0 : decode cX12_forged 0 = .ok (.aload_n 0, 1) := by decide +kernel
theorem dX12_forged_1 : decode cX12_forged 1 = .ok (.iconst 0, 1) := by decide +kernel
theorem dX12_forged_2 : decode cX12_forged 2 = .ok (.putfield 77, 3) := by decide +kernel
theorem dX12_forged_5 : decode cX12_forged 5 = .ok (.aload_n 0, 1) := by decide +kernel
theorem dX12_forged_6 : decode cX12_forged 6 = .ok (.iload_n 1, 1) := by decide +kernel
theorem dX12_forged_7 : decode cX12_forged 7 = .ok (.invokevirtual 189, 3) := by decide +kernel
theorem dX12_forged_10 : decode cX12_forged 10 = .ok (.istore_n 2, 1) := by decide +kernel
theorem dX12_forged_11 : decode cX12_forged 11 = .ok (.iload_n 2, 1) := by decide +kernel
theorem dX12_forged_12 : decode cX12_forged 12 = .ok (.ifCond .ne 20, 3) := by decide +kernel
theorem dX12_forged_15 : decode cX12_forged 15 = .ok (.aload_n 0, 1) := by decide +kernel
theorem dX12_forged_16 : decode cX12_forged 16 = .ok (.getfield 37, 3) := by decide +kernel
theorem dX12_forged_19 : decode cX12_forged 19 = .ok (.iload_n 1, 1) := by decide +kernel
theorem dX12_forged_20 : decode cX12_forged 20 = .ok (.iaload, 1) := by decide +kernel
theorem dX12_forged_21 : decode cX12_forged 21 = .ok (.iconst 2, 1) := by decide +kernel
theorem dX12_forged_22 : decode cX12_forged 22 = .ok (.irem, 1) := by decide +kernel
theorem dX12_forged_23 : decode cX12_forged 23 = .ok (.iconst 1, 1) := by decide +kernel
theorem dX12_forged_24 : decode cX12_forged 24 = .ok (.if_icmp .ne 8, 3) := by decide +kernel
theorem dX12_forged_27 : decode cX12_forged 27 = .ok (.bipush (-13), 2) := by decide +kernel
theorem dX12_forged_29 : decode cX12_forged 29 = .ok (.goto 4, 3) := by decide +kernel
theorem dX12_forged_32 : decode cX12_forged 32 = .ok (.iload_n 2, 1) := by decide +kernel
theorem dX12_forged_33 : decode cX12_forged 33 = .ok (.istore_n 2, 1) := by decide +kernel
theorem dX12_forged_34 : decode cX12_forged 34 = .ok (.iload_n 2, 1) := by decide +kernel
theorem dX12_forged_35 : decode cX12_forged 35 = .ok (.ifCond .ge 5, 3) := by decide +kernel
theorem dX12_forged_38 : decode cX12_forged 38 = .ok (.iload_n 2, 1) := by decide +kernel
theorem dX12_forged_39 : decode cX12_forged 39 = .ok (.ireturn, 1) := by decide +kernel
theorem dX12_forged_40 : decode cX12_forged 40 = .ok (.bipush (-4), 2) := by decide +kernel
theorem dX12_forged_42 : decode cX12_forged 42 = .ok (.istore_n 3, 1) := by decide +kernel
theorem dX12_forged_43 : decode cX12_forged 43 = .ok (.aload_n 0, 1) := by decide +kernel
theorem dX12_forged_44 : decode cX12_forged 44 = .ok (.invokevirtual 195, 3) := by decide +kernel
theorem dX12_forged_47 : decode cX12_forged 47 = .ok (.iconst 0, 1) := by decide +kernel
theorem dX12_forged_48 : decode cX12_forged 48 = .ok (.istore 4, 2) := by decide +kernel
theorem dX12_forged_50 : decode cX12_forged 50 = .ok (.iload 4, 2) := by decide +kernel
theorem dX12_forged_52 : decode cX12_forged 52 = .ok (.aload_n 0, 1) := by decide +kernel
theorem dX12_forged_53 : decode cX12_forged 53 = .ok (.getfield 37, 3) := by decide +kernel
theorem dX12_forged_56 : decode cX12_forged 56 = .ok (.iload_n 1, 1) := by decide +kernel
theorem dX12_forged_57 : decode cX12_forged 57 = .ok (.iaload, 1) := by decide +kernel
theorem dX12_forged_58 : decode cX12_forged 58 = .ok (.iconst 2, 1) := by decide +kernel
theorem dX12_forged_59 : decode cX12_forged 59 = .ok (.idiv, 1) := by decide +kernel
theorem dX12_forged_60 : decode cX12_forged 60 = .ok (.if_icmp .ge 123, 3) := by decide +kernel
theorem dX12_forged_63 : decode cX12_forged 63 = .ok (.iload_n 3, 1) := by decide +kernel
theorem dX12_forged_64 : decode cX12_forged 64 = .ok (.ifCond .ge 119, 3) := by decide +kernel
theorem dX12_forged_67 : decode cX12_forged 67 = .ok (.aload_n 0, 1) := by decide +kernel
theorem dX12_forged_68 : decode cX12_forged 68 = .ok (.getfield 40, 3) := by decide +kernel
theorem dX12_forged_71 : decode cX12_forged 71 = .ok (.bipush 100, 2) := by decide +kernel
theorem dX12_forged_73 : decode cX12_forged 73 = .ok (.iload_n 1, 1) := by decide +kernel
theorem dX12_forged_74 : decode cX12_forged 74 = .ok (.imul, 1) := by decide +kernel
theorem dX12_forged_75 : decode cX12_forged 75 = .ok (.iconst 2, 1) := by decide +kernel
theorem dX12_forged_76 : decode cX12_forged 76 = .ok (.iload 4, 2) := by decide +kernel
theorem dX12_forged_78 : decode cX12_forged 78 = .ok (.imul, 1) := by decide +kernel
theorem dX12_forged_79 : decode cX12_forged 79 = .ok (.iadd, 1) := by decide +kernel
theorem dX12_forged_80 : decode cX12_forged 80 = .ok (.laload, 1) := by decide +kernel
theorem dX12_forged_81 : decode cX12_forged 81 = .ok (.lstore 5, 2) := by decide +kernel
theorem dX12_forged_83 : decode cX12_forged 83 = .ok (.aload_n 0, 1) := by decide +kernel
theorem dX12_forged_84 : decode cX12_forged 84 = .ok (.getfield 40, 3) := by decide +kernel
theorem dX12_forged_87 : decode cX12_forged 87 = .ok (.bipush 100, 2) := by decide +kernel
theorem dX12_forged_89 : decode cX12_forged 89 = .ok (.iload_n 1, 1) := by decide +kernel
theorem dX12_forged_90 : decode cX12_forged 90 = .ok (.imul, 1) := by decide +kernel
theorem dX12_forged_91 : decode cX12_forged 91 = .ok (.iconst 2, 1) := by decide +kernel
theorem dX12_forged_92 : decode cX12_forged 92 = .ok (.iload 4, 2) := by decide +kernel
theorem dX12_forged_94 : decode cX12_forged 94 = .ok (.imul, 1) := by decide +kernel
theorem dX12_forged_95 : decode cX12_forged 95 = .ok (.iadd, 1) := by decide +kernel
theorem dX12_forged_96 : decode cX12_forged 96 = .ok (.iconst 1, 1) := by decide +kernel
theorem dX12_forged_97 : decode cX12_forged 97 = .ok (.iadd, 1) := by decide +kernel
theorem dX12_forged_98 : decode cX12_forged 98 = .ok (.laload, 1) := by decide +kernel
theorem dX12_forged_99 : decode cX12_forged 99 = .ok (.lstore 7, 2) := by decide +kernel
theorem dX12_forged_101 : decode cX12_forged 101 = .ok (.lload 5, 2) := by decide +kernel
theorem dX12_forged_103 : decode cX12_forged 103 = .ok (.lconst 0, 1) := by decide +kernel
theorem dX12_forged_104 : decode cX12_forged 104 = .ok (.aload_n 0, 1) := by decide +kernel
theorem dX12_forged_105 : decode cX12_forged 105 = .ok (.getfield 81, 3) := by decide +kernel
theorem dX12_forged_108 : decode cX12_forged 108 = .ok (.iconst 1, 1) := by decide +kernel
theorem dX12_forged_109 : decode cX12_forged 109 = .ok (.isub, 1) := by decide +kernel
theorem dX12_forged_110 : decode cX12_forged 110 = .ok (.i2l, 1) := by decide +kernel
theorem dX12_forged_111 : decode cX12_forged 111 = .ok (.invokestatic 84, 3) := by decide +kernel
theorem dX12_forged_114 : decode cX12_forged 114 = .ok (.ifCond .eq 32, 3) := by decide +kernel
theorem dX12_forged_117 : decode cX12_forged 117 = .ok (.lload 7, 2) := by decide +kernel
theorem dX12_forged_119 : decode cX12_forged 119 = .ok (.lconst 0, 1) := by decide +kernel
theorem dX12_forged_120 : decode cX12_forged 120 = .ok (.ldc2_w 230, 3) := by decide +kernel
theorem dX12_forged_123 : decode cX12_forged 123 = .ok (.invokestatic 84, 3) := by decide +kernel
theorem dX12_forged_126 : decode cX12_forged 126 = .ok (.ifCond .eq 20, 3) := by decide +kernel
theorem dX12_forged_129 : decode cX12_forged 129 = .ok (.aload_n 0, 1) := by decide +kernel
theorem dX12_forged_130 : decode cX12_forged 130 = .ok (.getfield 19, 3) := by decide +kernel
theorem dX12_forged_133 : decode cX12_forged 133 = .ok (.lload 5, 2) := by decide +kernel
theorem dX12_forged_135 : decode cX12_forged 135 = .ok (.l2i, 1) := by decide +kernel
theorem dX12_forged_136 : decode cX12_forged 136 = .ok (.iaload, 1) := by decide +kernel
theorem dX12_forged_137 : decode cX12_forged 137 = .ok (.bipush 7, 2) := by decide +kernel
theorem dX12_forged_139 : decode cX12_forged 139 = .ok (.if_icmp .ge 7, 3) := by decide +kernel
theorem dX12_forged_142 : decode cX12_forged 142 = .ok (.iconst 1, 1) := by decide +kernel
theorem dX12_forged_143 : decode cX12_forged 143 = .ok (.goto 4, 3) := by decide +kernel
theorem dX12_forged_146 : decode cX12_forged 146 = .ok (.iconst 0, 1) := by decide +kernel
theorem dX12_forged_147 : decode cX12_forged 147 = .ok (.istore 9, 2) := by decide +kernel
theorem dX12_forged_149 : decode cX12_forged 149 = .ok (.iload 9, 2) := by decide +kernel
theorem dX12_forged_151 : decode cX12_forged 151 = .ok (.ifCond .eq 13, 3) := by decide +kernel
theorem dX12_forged_154 : decode cX12_forged 154 = .ok (.aload_n 0, 1) := by decide +kernel
theorem dX12_forged_155 : decode cX12_forged 155 = .ok (.lload 5, 2) := by decide +kernel
theorem dX12_forged_157 : decode cX12_forged 157 = .ok (.l2i, 1) := by decide +kernel
theorem dX12_forged_158 : decode cX12_forged 158 = .ok (.lload 7, 2) := by decide +kernel
theorem dX12_forged_160 : decode cX12_forged 160 = .ok (.l2i, 1) := by decide +kernel
theorem dX12_forged_161 : decode cX12_forged 161 = .ok (.invokevirtual 168, 3) := by decide +kernel
theorem dX12_forged_164 : decode cX12_forged 164 = .ok (.iload 9, 2) := by decide +kernel
theorem dX12_forged_166 : decode cX12_forged 166 = .ok (.ifCond .eq 8, 3) := by decide +kernel
theorem dX12_forged_169 : decode cX12_forged 169 = .ok (.bipush (-4), 2) := by decide +kernel
theorem dX12_forged_171 : decode cX12_forged 171 = .ok (.goto 5, 3) := by decide +kernel
theorem dX12_forged_174 : decode cX12_forged 174 = .ok (.iload 4, 2) := by decide +kernel
theorem dX12_forged_176 : decode cX12_forged 176 = .ok (.istore_n 3, 1) := by decide +kernel
theorem dX12_forged_177 : decode cX12_forged 177 = .ok (.iinc 4 1, 3) := by decide +kernel
theorem dX12_forged_180 : decode cX12_forged 180 = .ok (.goto (-130), 3) := by decide +kernel
theorem dX12_forged_183 : decode cX12_forged 183 = .ok (.aload_n 0, 1) := by decide +kernel
theorem dX12_forged_184 : decode cX12_forged 184 = .ok (.invokevirtual 201, 3) := by decide +kernel
theorem dX12_forged_187 : decode cX12_forged 187 = .ok (.iload_n 3, 1) := by decide +kernel
theorem dX12_forged_188 : decode cX12_forged 188 = .ok (.ireturn, 1) := by decide +kernel
theorem dX12_skipped_0 : decode cX12_skipped 0 = .ok (.aload_n 0, 1) := by decide +kernel
theorem dX12_skipped_1 : decode cX12_skipped 1 = .ok (.getfield 34, 3) := by decide +kernel
theorem dX12_skipped_4 : decode cX12_skipped 4 = .ok (.iload_n 1, 1) := by decide +kernel
theorem dX12_skipped_5 : decode cX12_skipped 5 = .ok (.iaload, 1) := by decide +kernel
theorem dX12_skipped_6 : decode cX12_skipped 6 = .ok (.ifCond .ne 9, 3) := by decide +kernel
theorem dX12_skipped_9 : decode cX12_skipped 9 = .ok (.ldc2_w 317, 3) := by decide +kernel
theorem dX12_skipped_12 : decode cX12_skipped 12 = .ok (.goto 22, 3) := by decide +kernel
theorem dX12_skipped_15 : decode cX12_skipped 15 = .ok (.aload_n 0, 1) := by decide +kernel
theorem dX12_skipped_16 : decode cX12_skipped 16 = .ok (.getfield 34, 3) := by decide +kernel
theorem dX12_skipped_19 : decode cX12_skipped 19 = .ok (.iload_n 1, 1) := by decide +kernel
theorem dX12_skipped_20 : decode cX12_skipped 20 = .ok (.iaload, 1) := by decide +kernel
theorem dX12_skipped_21 : decode cX12_skipped 21 = .ok (.iconst 1, 1) := by decide +kernel
theorem dX12_skipped_22 : decode cX12_skipped 22 = .ok (.if_icmp .ne 9, 3) := by decide +kernel
theorem dX12_skipped_25 : decode cX12_skipped 25 = .ok (.ldc2_w 319, 3) := by decide +kernel
theorem dX12_skipped_28 : decode cX12_skipped 28 = .ok (.goto 6, 3) := by decide +kernel
theorem dX12_skipped_31 : decode cX12_skipped 31 = .ok (.ldc2_w 321, 3) := by decide +kernel
theorem dX12_skipped_34 : decode cX12_skipped 34 = .ok (.lreturn, 1) := by decide +kernel
theorem dX12_judge_0 : decode cX12_judge 0 = .ok (.aload_n 0, 1) := by decide +kernel
theorem dX12_judge_1 : decode cX12_judge 1 = .ok (.iconst 0, 1) := by decide +kernel
theorem dX12_judge_2 : decode cX12_judge 2 = .ok (.putfield 77, 3) := by decide +kernel
theorem dX12_judge_5 : decode cX12_judge 5 = .ok (.aload_n 0, 1) := by decide +kernel
theorem dX12_judge_6 : decode cX12_judge 6 = .ok (.iload_n 2, 1) := by decide +kernel
theorem dX12_judge_7 : decode cX12_judge 7 = .ok (.invokevirtual 99, 3) := by decide +kernel
theorem dX12_judge_10 : decode cX12_judge 10 = .ok (.ifCond .eq 11, 3) := by decide +kernel
theorem dX12_judge_13 : decode cX12_judge 13 = .ok (.aload_n 0, 1) := by decide +kernel
theorem dX12_judge_14 : decode cX12_judge 14 = .ok (.iload_n 1, 1) := by decide +kernel
theorem dX12_judge_15 : decode cX12_judge 15 = .ok (.invokevirtual 189, 3) := by decide +kernel
theorem dX12_judge_18 : decode cX12_judge 18 = .ok (.goto 4, 3) := by decide +kernel
theorem dX12_judge_21 : decode cX12_judge 21 = .ok (.iconst (-1), 1) := by decide +kernel
theorem dX12_judge_22 : decode cX12_judge 22 = .ok (.istore_n 3, 1) := by decide +kernel
theorem dX12_judge_23 : decode cX12_judge 23 = .ok (.iload_n 3, 1) := by decide +kernel
theorem dX12_judge_24 : decode cX12_judge 24 = .ok (.ifCond .ge 5, 3) := by decide +kernel
theorem dX12_judge_27 : decode cX12_judge 27 = .ok (.iload_n 3, 1) := by decide +kernel
theorem dX12_judge_28 : decode cX12_judge 28 = .ok (.ireturn, 1) := by decide +kernel
theorem dX12_judge_29 : decode cX12_judge 29 = .ok (.bipush (-4), 2) := by decide +kernel
theorem dX12_judge_31 : decode cX12_judge 31 = .ok (.istore 4, 2) := by decide +kernel
theorem dX12_judge_33 : decode cX12_judge 33 = .ok (.aload_n 0, 1) := by decide +kernel
theorem dX12_judge_34 : decode cX12_judge 34 = .ok (.iconst 0, 1) := by decide +kernel
theorem dX12_judge_35 : decode cX12_judge 35 = .ok (.putfield 271, 3) := by decide +kernel
theorem dX12_judge_38 : decode cX12_judge 38 = .ok (.aload_n 0, 1) := by decide +kernel
theorem dX12_judge_39 : decode cX12_judge 39 = .ok (.invokevirtual 195, 3) := by decide +kernel
theorem dX12_judge_42 : decode cX12_judge 42 = .ok (.iconst 0, 1) := by decide +kernel
theorem dX12_judge_43 : decode cX12_judge 43 = .ok (.istore 5, 2) := by decide +kernel
theorem dX12_judge_45 : decode cX12_judge 45 = .ok (.iload 5, 2) := by decide +kernel
theorem dX12_judge_47 : decode cX12_judge 47 = .ok (.aload_n 0, 1) := by decide +kernel
theorem dX12_judge_48 : decode cX12_judge 48 = .ok (.getfield 37, 3) := by decide +kernel
theorem dX12_judge_51 : decode cX12_judge 51 = .ok (.iload_n 1, 1) := by decide +kernel
theorem dX12_judge_52 : decode cX12_judge 52 = .ok (.iaload, 1) := by decide +kernel
theorem dX12_judge_53 : decode cX12_judge 53 = .ok (.if_icmp .ge 71, 3) := by decide +kernel
theorem dX12_judge_56 : decode cX12_judge 56 = .ok (.iload 4, 2) := by decide +kernel
theorem dX12_judge_58 : decode cX12_judge 58 = .ok (.ifCond .ge 66, 3) := by decide +kernel
theorem dX12_judge_61 : decode cX12_judge 61 = .ok (.iload 5, 2) := by decide +kernel
theorem dX12_judge_63 : decode cX12_judge 63 = .ok (.ifCond .le 8, 3) := by decide +kernel
theorem dX12_judge_66 : decode cX12_judge 66 = .ok (.aload_n 0, 1) := by decide +kernel
theorem dX12_judge_67 : decode cX12_judge 67 = .ok (.invokevirtual 276, 3) := by decide +kernel
theorem dX12_judge_70 : decode cX12_judge 70 = .ok (.pop, 1) := by decide +kernel
theorem dX12_judge_71 : decode cX12_judge 71 = .ok (.aload_n 0, 1) := by decide +kernel
theorem dX12_judge_72 : decode cX12_judge 72 = .ok (.getfield 40, 3) := by decide +kernel
theorem dX12_judge_75 : decode cX12_judge 75 = .ok (.bipush 100, 2) := by decide +kernel
theorem dX12_judge_77 : decode cX12_judge 77 = .ok (.iload_n 1, 1) := by decide +kernel
theorem dX12_judge_78 : decode cX12_judge 78 = .ok (.imul, 1) := by decide +kernel
theorem dX12_judge_79 : decode cX12_judge 79 = .ok (.iload 5, 2) := by decide +kernel
theorem dX12_judge_81 : decode cX12_judge 81 = .ok (.iadd, 1) := by decide +kernel
theorem dX12_judge_82 : decode cX12_judge 82 = .ok (.laload, 1) := by decide +kernel
theorem dX12_judge_83 : decode cX12_judge 83 = .ok (.lstore 6, 2) := by decide +kernel
theorem dX12_judge_85 : decode cX12_judge 85 = .ok (.lload 6, 2) := by decide +kernel
theorem dX12_judge_87 : decode cX12_judge 87 = .ok (.aload_n 0, 1) := by decide +kernel
theorem dX12_judge_88 : decode cX12_judge 88 = .ok (.iload_n 1, 1) := by decide +kernel
theorem dX12_judge_89 : decode cX12_judge 89 = .ok (.invokevirtual 323, 3) := by decide +kernel
theorem dX12_judge_92 : decode cX12_judge 92 = .ok (.lcmp, 1) := by decide +kernel
theorem dX12_judge_93 : decode cX12_judge 93 = .ok (.ifCond .eq 16, 3) := by decide +kernel
theorem dX12_judge_96 : decode cX12_judge 96 = .ok (.lload 6, 2) := by decide +kernel
theorem dX12_judge_98 : decode cX12_judge 98 = .ok (.aload_n 0, 1) := by decide +kernel
theorem dX12_judge_99 : decode cX12_judge 99 = .ok (.getfield 16, 3) := by decide +kernel
theorem dX12_judge_102 : decode cX12_judge 102 = .ok (.iload_n 2, 1) := by decide +kernel
theorem dX12_judge_103 : decode cX12_judge 103 = .ok (.iaload, 1) := by decide +kernel
theorem dX12_judge_104 : decode cX12_judge 104 = .ok (.i2l, 1) := by decide +kernel
theorem dX12_judge_105 : decode cX12_judge 105 = .ok (.lcmp, 1) := by decide +kernel
theorem dX12_judge_106 : decode cX12_judge 106 = .ok (.ifCond .ne 8, 3) := by decide +kernel
theorem dX12_judge_109 : decode cX12_judge 109 = .ok (.bipush (-4), 2) := by decide +kernel
theorem dX12_judge_111 : decode cX12_judge 111 = .ok (.goto 5, 3) := by decide +kernel
theorem dX12_judge_114 : decode cX12_judge 114 = .ok (.iload 5, 2) := by decide +kernel
theorem dX12_judge_116 : decode cX12_judge 116 = .ok (.istore 4, 2) := by decide +kernel
theorem dX12_judge_118 : decode cX12_judge 118 = .ok (.iinc 5 1, 3) := by decide +kernel
theorem dX12_judge_121 : decode cX12_judge 121 = .ok (.goto (-76), 3) := by decide +kernel
theorem dX12_judge_124 : decode cX12_judge 124 = .ok (.aload_n 0, 1) := by decide +kernel
theorem dX12_judge_125 : decode cX12_judge 125 = .ok (.invokevirtual 201, 3) := by decide +kernel
theorem dX12_judge_128 : decode cX12_judge 128 = .ok (.iload 4, 2) := by decide +kernel
theorem dX12_judge_130 : decode cX12_judge 130 = .ok (.ireturn, 1) := by decide +kernel
theorem dX12_drawBelow_0 : decode cX12_drawBelow 0 = .ok (.aload_n 0, 1) := by decide +kernel
theorem dX12_drawBelow_1 : decode cX12_drawBelow 1 = .ok (.aload_n 0, 1) := by decide +kernel
theorem dX12_drawBelow_2 : decode cX12_drawBelow 2 = .ok (.getfield 327, 3) := by decide +kernel
theorem dX12_drawBelow_5 : decode cX12_drawBelow 5 = .ok (.ldc_w 330, 3) := by decide +kernel
theorem dX12_drawBelow_8 : decode cX12_drawBelow 8 = .ok (.imul, 1) := by decide +kernel
theorem dX12_drawBelow_9 : decode cX12_drawBelow 9 = .ok (.sipush 12345, 3) := by decide +kernel
theorem dX12_drawBelow_12 : decode cX12_drawBelow 12 = .ok (.iadd, 1) := by decide +kernel
theorem dX12_drawBelow_13 : decode cX12_drawBelow 13 = .ok (.putfield 327, 3) := by decide +kernel
theorem dX12_drawBelow_16 : decode cX12_drawBelow 16 = .ok (.aload_n 0, 1) := by decide +kernel
theorem dX12_drawBelow_17 : decode cX12_drawBelow 17 = .ok (.getfield 327, 3) := by decide +kernel
theorem dX12_drawBelow_20 : decode cX12_drawBelow 20 = .ok (.ldc_w 331, 3) := by decide +kernel
theorem dX12_drawBelow_23 : decode cX12_drawBelow 23 = .ok (.iand, 1) := by decide +kernel
theorem dX12_drawBelow_24 : decode cX12_drawBelow 24 = .ok (.ldc_w 332, 3) := by decide +kernel
theorem dX12_drawBelow_27 : decode cX12_drawBelow 27 = .ok (.idiv, 1) := by decide +kernel
theorem dX12_drawBelow_28 : decode cX12_drawBelow 28 = .ok (.iload_n 1, 1) := by decide +kernel
theorem dX12_drawBelow_29 : decode cX12_drawBelow 29 = .ok (.irem, 1) := by decide +kernel
theorem dX12_drawBelow_30 : decode cX12_drawBelow 30 = .ok (.ireturn, 1) := by decide +kernel
theorem dX12_weeks_0 : decode cX12_weeks 0 = .ok (.aload_n 0, 1) := by decide +kernel
theorem dX12_weeks_1 : decode cX12_weeks 1 = .ok (.iconst 0, 1) := by decide +kernel
theorem dX12_weeks_2 : decode cX12_weeks 2 = .ok (.putfield 77, 3) := by decide +kernel
theorem dX12_weeks_5 : decode cX12_weeks 5 = .ok (.iload_n 1, 1) := by decide +kernel
theorem dX12_weeks_6 : decode cX12_weeks 6 = .ok (.i2l, 1) := by decide +kernel
theorem dX12_weeks_7 : decode cX12_weeks 7 = .ok (.lconst 1, 1) := by decide +kernel
theorem dX12_weeks_8 : decode cX12_weeks 8 = .ok (.ldc2_w 225, 3) := by decide +kernel
theorem dX12_weeks_11 : decode cX12_weeks 11 = .ok (.invokestatic 84, 3) := by decide +kernel
theorem dX12_weeks_14 : decode cX12_weeks 14 = .ok (.ifCond .eq 13, 3) := by decide +kernel
theorem dX12_weeks_17 : decode cX12_weeks 17 = .ok (.iload_n 3, 1) := by decide +kernel
theorem dX12_weeks_18 : decode cX12_weeks 18 = .ok (.i2l, 1) := by decide +kernel
theorem dX12_weeks_19 : decode cX12_weeks 19 = .ok (.lconst 0, 1) := by decide +kernel
theorem dX12_weeks_20 : decode cX12_weeks 20 = .ok (.lconst 1, 1) := by decide +kernel
theorem dX12_weeks_21 : decode cX12_weeks 21 = .ok (.invokestatic 84, 3) := by decide +kernel
theorem dX12_weeks_24 : decode cX12_weeks 24 = .ok (.ifCond .ne 5, 3) := by decide +kernel
theorem dX12_weeks_27 : decode cX12_weeks 27 = .ok (.iconst (-1), 1) := by decide +kernel
theorem dX12_weeks_28 : decode cX12_weeks 28 = .ok (.ireturn, 1) := by decide +kernel
theorem dX12_weeks_29 : decode cX12_weeks 29 = .ok (.aload_n 0, 1) := by decide +kernel
theorem dX12_weeks_30 : decode cX12_weeks 30 = .ok (.getfield 81, 3) := by decide +kernel
theorem dX12_weeks_33 : decode cX12_weeks 33 = .ok (.ifCond .ne 6, 3) := by decide +kernel
theorem dX12_weeks_36 : decode cX12_weeks 36 = .ok (.bipush (-3), 2) := by decide +kernel
theorem dX12_weeks_38 : decode cX12_weeks 38 = .ok (.ireturn, 1) := by decide +kernel
theorem dX12_weeks_39 : decode cX12_weeks 39 = .ok (.aload_n 0, 1) := by decide +kernel
theorem dX12_weeks_40 : decode cX12_weeks 40 = .ok (.iload_n 2, 1) := by decide +kernel
theorem dX12_weeks_41 : decode cX12_weeks 41 = .ok (.putfield 327, 3) := by decide +kernel
theorem dX12_weeks_44 : decode cX12_weeks 44 = .ok (.iconst 0, 1) := by decide +kernel
theorem dX12_weeks_45 : decode cX12_weeks 45 = .ok (.istore 4, 2) := by decide +kernel
theorem dX12_weeks_47 : decode cX12_weeks 47 = .ok (.iconst 0, 1) := by decide +kernel
theorem dX12_weeks_48 : decode cX12_weeks 48 = .ok (.istore 5, 2) := by decide +kernel
theorem dX12_weeks_50 : decode cX12_weeks 50 = .ok (.aload_n 0, 1) := by decide +kernel
theorem dX12_weeks_51 : decode cX12_weeks 51 = .ok (.invokevirtual 234, 3) := by decide +kernel
theorem dX12_weeks_54 : decode cX12_weeks 54 = .ok (.istore 6, 2) := by decide +kernel
theorem dX12_weeks_56 : decode cX12_weeks 56 = .ok (.aload_n 0, 1) := by decide +kernel
theorem dX12_weeks_57 : decode cX12_weeks 57 = .ok (.invokevirtual 195, 3) := by decide +kernel
theorem dX12_weeks_60 : decode cX12_weeks 60 = .ok (.iconst 0, 1) := by decide +kernel
theorem dX12_weeks_61 : decode cX12_weeks 61 = .ok (.istore 7, 2) := by decide +kernel
theorem dX12_weeks_63 : decode cX12_weeks 63 = .ok (.iload 7, 2) := by decide +kernel
theorem dX12_weeks_65 : decode cX12_weeks 65 = .ok (.iload_n 1, 1) := by decide +kernel
theorem dX12_weeks_66 : decode cX12_weeks 66 = .ok (.if_icmp .ge 103, 3) := by decide +kernel
theorem dX12_weeks_69 : decode cX12_weeks 69 = .ok (.iconst 0, 1) := by decide +kernel
theorem dX12_weeks_70 : decode cX12_weeks 70 = .ok (.istore 8, 2) := by decide +kernel
theorem dX12_weeks_72 : decode cX12_weeks 72 = .ok (.iload 8, 2) := by decide +kernel
theorem dX12_weeks_74 : decode cX12_weeks 74 = .ok (.bipush 10, 2) := by decide +kernel
theorem dX12_weeks_76 : decode cX12_weeks 76 = .ok (.if_icmp .ge 71, 3) := by decide +kernel
theorem dX12_weeks_79 : decode cX12_weeks 79 = .ok (.aload_n 0, 1) := by decide +kernel
theorem dX12_weeks_80 : decode cX12_weeks 80 = .ok (.aload_n 0, 1) := by decide +kernel
theorem dX12_weeks_81 : decode cX12_weeks 81 = .ok (.getfield 81, 3) := by decide +kernel
theorem dX12_weeks_84 : decode cX12_weeks 84 = .ok (.invokevirtual 333, 3) := by decide +kernel
theorem dX12_weeks_87 : decode cX12_weeks 87 = .ok (.istore 9, 2) := by decide +kernel
theorem dX12_weeks_89 : decode cX12_weeks 89 = .ok (.aload_n 0, 1) := by decide +kernel
theorem dX12_weeks_90 : decode cX12_weeks 90 = .ok (.iconst 4, 1) := by decide +kernel
theorem dX12_weeks_91 : decode cX12_weeks 91 = .ok (.invokevirtual 333, 3) := by decide +kernel
theorem dX12_weeks_94 : decode cX12_weeks 94 = .ok (.istore 10, 2) := by decide +kernel
theorem dX12_weeks_96 : decode cX12_weeks 96 = .ok (.aload_n 0, 1) := by decide +kernel
theorem dX12_weeks_97 : decode cX12_weeks 97 = .ok (.getfield 19, 3) := by decide +kernel
theorem dX12_weeks_100 : decode cX12_weeks 100 = .ok (.iload 9, 2) := by decide +kernel
theorem dX12_weeks_102 : decode cX12_weeks 102 = .ok (.iaload, 1) := by decide +kernel
theorem dX12_weeks_103 : decode cX12_weeks 103 = .ok (.bipush 7, 2) := by decide +kernel
theorem dX12_weeks_105 : decode cX12_weeks 105 = .ok (.if_icmp .ge 36, 3) := by decide +kernel
theorem dX12_weeks_108 : decode cX12_weeks 108 = .ok (.iload 5, 2) := by decide +kernel
theorem dX12_weeks_110 : decode cX12_weeks 110 = .ok (.iload 10, 2) := by decide +kernel
theorem dX12_weeks_112 : decode cX12_weeks 112 = .ok (.iconst 2, 1) := by decide +kernel
theorem dX12_weeks_113 : decode cX12_weeks 113 = .ok (.if_icmp .ne 16, 3) := by decide +kernel
theorem dX12_weeks_116 : decode cX12_weeks 116 = .ok (.aload_n 0, 1) := by decide +kernel
theorem dX12_weeks_117 : decode cX12_weeks 117 = .ok (.iload 9, 2) := by decide +kernel
theorem dX12_weeks_119 : decode cX12_weeks 119 = .ok (.invokevirtual 109, 3) := by decide +kernel
theorem dX12_weeks_122 : decode cX12_weeks 122 = .ok (.ifCond .ne 7, 3) := by decide +kernel
theorem dX12_weeks_125 : decode cX12_weeks 125 = .ok (.iconst 1, 1) := by decide +kernel
theorem dX12_weeks_126 : decode cX12_weeks 126 = .ok (.goto 4, 3) := by decide +kernel
theorem dX12_weeks_129 : decode cX12_weeks 129 = .ok (.iconst 0, 1) := by decide +kernel
theorem dX12_weeks_130 : decode cX12_weeks 130 = .ok (.iadd, 1) := by decide +kernel
theorem dX12_weeks_131 : decode cX12_weeks 131 = .ok (.istore 5, 2) := by decide +kernel
theorem dX12_weeks_133 : decode cX12_weeks 133 = .ok (.aload_n 0, 1) := by decide +kernel
theorem dX12_weeks_134 : decode cX12_weeks 134 = .ok (.iload 9, 2) := by decide +kernel
theorem dX12_weeks_136 : decode cX12_weeks 136 = .ok (.iload 10, 2) := by decide +kernel
theorem dX12_weeks_138 : decode cX12_weeks 138 = .ok (.invokevirtual 168, 3) := by decide +kernel
theorem dX12_weeks_141 : decode cX12_weeks 141 = .ok (.iinc 8 1, 3) := by decide +kernel
theorem dX12_weeks_144 : decode cX12_weeks 144 = .ok (.goto (-72), 3) := by decide +kernel
theorem dX12_weeks_147 : decode cX12_weeks 147 = .ok (.iload 4, 2) := by decide +kernel
theorem dX12_weeks_149 : decode cX12_weeks 149 = .ok (.aload_n 0, 1) := by decide +kernel
theorem dX12_weeks_150 : decode cX12_weeks 150 = .ok (.invokevirtual 234, 3) := by decide +kernel
theorem dX12_weeks_153 : decode cX12_weeks 153 = .ok (.iload 6, 2) := by decide +kernel
theorem dX12_weeks_155 : decode cX12_weeks 155 = .ok (.isub, 1) := by decide +kernel
theorem dX12_weeks_156 : decode cX12_weeks 156 = .ok (.iadd, 1) := by decide +kernel
theorem dX12_weeks_157 : decode cX12_weeks 157 = .ok (.istore 4, 2) := by decide +kernel
theorem dX12_weeks_159 : decode cX12_weeks 159 = .ok (.aload_n 0, 1) := by decide +kernel
theorem dX12_weeks_160 : decode cX12_weeks 160 = .ok (.invokevirtual 201, 3) := by decide +kernel
theorem dX12_weeks_163 : decode cX12_weeks 163 = .ok (.iinc 7 1, 3) := by decide +kernel
theorem dX12_weeks_166 : decode cX12_weeks 166 = .ok (.goto (-103), 3) := by decide +kernel
theorem dX12_weeks_169 : decode cX12_weeks 169 = .ok (.iload_n 3, 1) := by decide +kernel
theorem dX12_weeks_170 : decode cX12_weeks 170 = .ok (.ifCond .ne 8, 3) := by decide +kernel
theorem dX12_weeks_173 : decode cX12_weeks 173 = .ok (.iload 4, 2) := by decide +kernel
theorem dX12_weeks_175 : decode cX12_weeks 175 = .ok (.goto 5, 3) := by decide +kernel
theorem dX12_weeks_178 : decode cX12_weeks 178 = .ok (.iload 5, 2) := by decide +kernel
theorem dX12_weeks_180 : decode cX12_weeks 180 = .ok (.ireturn, 1) := by decide +kernel
theorem dX12_count_0 : decode cX12_count 0 = .ok (.aload_n 0, 1) := by decide +kernel
theorem dX12_count_1 : decode cX12_count 1 = .ok (.iconst 0, 1) := by decide +kernel
theorem dX12_count_2 : decode cX12_count 2 = .ok (.putfield 77, 3) := by decide +kernel
theorem dX12_count_5 : decode cX12_count 5 = .ok (.iconst 0, 1) := by decide +kernel
theorem dX12_count_6 : decode cX12_count 6 = .ok (.istore_n 2, 1) := by decide +kernel
theorem dX12_count_7 : decode cX12_count 7 = .ok (.iload_n 1, 1) := by decide +kernel
theorem dX12_count_8 : decode cX12_count 8 = .ok (.tableswitch 114 0 5 #[40, 45, 50, 77, 82, 109], 40) := by decide +kernel
theorem dX12_count_48 : decode cX12_count 48 = .ok (.aload_n 0, 1) := by decide +kernel
theorem dX12_count_49 : decode cX12_count 49 = .ok (.getfield 81, 3) := by decide +kernel
theorem dX12_count_52 : decode cX12_count 52 = .ok (.ireturn, 1) := by decide +kernel
theorem dX12_count_53 : decode cX12_count 53 = .ok (.aload_n 0, 1) := by decide +kernel
theorem dX12_count_54 : decode cX12_count 54 = .ok (.getfield 135, 3) := by decide +kernel
theorem dX12_count_57 : decode cX12_count 57 = .ok (.ireturn, 1) := by decide +kernel
theorem dX12_count_58 : decode cX12_count 58 = .ok (.iconst 0, 1) := by decide +kernel
theorem dX12_count_59 : decode cX12_count 59 = .ok (.istore_n 3, 1) := by decide +kernel
theorem dX12_count_60 : decode cX12_count 60 = .ok (.iload_n 3, 1) := by decide +kernel
theorem dX12_count_61 : decode cX12_count 61 = .ok (.aload_n 0, 1) := by decide +kernel
theorem dX12_count_62 : decode cX12_count 62 = .ok (.getfield 81, 3) := by decide +kernel
theorem dX12_count_65 : decode cX12_count 65 = .ok (.if_icmp .ge 18, 3) := by decide +kernel
theorem dX12_count_68 : decode cX12_count 68 = .ok (.iload_n 2, 1) := by decide +kernel
theorem dX12_count_69 : decode cX12_count 69 = .ok (.aload_n 0, 1) := by decide +kernel
theorem dX12_count_70 : decode cX12_count 70 = .ok (.getfield 16, 3) := by decide +kernel
theorem dX12_count_73 : decode cX12_count 73 = .ok (.iload_n 3, 1) := by decide +kernel
theorem dX12_count_74 : decode cX12_count 74 = .ok (.iaload, 1) := by decide +kernel
theorem dX12_count_75 : decode cX12_count 75 = .ok (.iadd, 1) := by decide +kernel
theorem dX12_count_76 : decode cX12_count 76 = .ok (.istore_n 2, 1) := by decide +kernel
theorem dX12_count_77 : decode cX12_count 77 = .ok (.iinc 3 1, 3) := by decide +kernel
theorem dX12_count_80 : decode cX12_count 80 = .ok (.goto (-20), 3) := by decide +kernel
theorem dX12_count_83 : decode cX12_count 83 = .ok (.iload_n 2, 1) := by decide +kernel
theorem dX12_count_84 : decode cX12_count 84 = .ok (.ireturn, 1) := by decide +kernel
theorem dX12_count_85 : decode cX12_count 85 = .ok (.aload_n 0, 1) := by decide +kernel
theorem dX12_count_86 : decode cX12_count 86 = .ok (.invokevirtual 234, 3) := by decide +kernel
theorem dX12_count_89 : decode cX12_count 89 = .ok (.ireturn, 1) := by decide +kernel
theorem dX12_count_90 : decode cX12_count 90 = .ok (.iconst 0, 1) := by decide +kernel
theorem dX12_count_91 : decode cX12_count 91 = .ok (.istore_n 3, 1) := by decide +kernel
theorem dX12_count_92 : decode cX12_count 92 = .ok (.iload_n 3, 1) := by decide +kernel
theorem dX12_count_93 : decode cX12_count 93 = .ok (.aload_n 0, 1) := by decide +kernel
theorem dX12_count_94 : decode cX12_count 94 = .ok (.getfield 81, 3) := by decide +kernel
theorem dX12_count_97 : decode cX12_count 97 = .ok (.if_icmp .ge 18, 3) := by decide +kernel
theorem dX12_count_100 : decode cX12_count 100 = .ok (.iload_n 2, 1) := by decide +kernel
theorem dX12_count_101 : decode cX12_count 101 = .ok (.aload_n 0, 1) := by decide +kernel
theorem dX12_count_102 : decode cX12_count 102 = .ok (.getfield 22, 3) := by decide +kernel
theorem dX12_count_105 : decode cX12_count 105 = .ok (.iload_n 3, 1) := by decide +kernel
theorem dX12_count_106 : decode cX12_count 106 = .ok (.iaload, 1) := by decide +kernel
theorem dX12_count_107 : decode cX12_count 107 = .ok (.iadd, 1) := by decide +kernel
theorem dX12_count_108 : decode cX12_count 108 = .ok (.istore_n 2, 1) := by decide +kernel
theorem dX12_count_109 : decode cX12_count 109 = .ok (.iinc 3 1, 3) := by decide +kernel
theorem dX12_count_112 : decode cX12_count 112 = .ok (.goto (-20), 3) := by decide +kernel
theorem dX12_count_115 : decode cX12_count 115 = .ok (.iload_n 2, 1) := by decide +kernel
theorem dX12_count_116 : decode cX12_count 116 = .ok (.ireturn, 1) := by decide +kernel
theorem dX12_count_117 : decode cX12_count 117 = .ok (.aload_n 0, 1) := by decide +kernel
theorem dX12_count_118 : decode cX12_count 118 = .ok (.invokevirtual 279, 3) := by decide +kernel
theorem dX12_count_121 : decode cX12_count 121 = .ok (.ireturn, 1) := by decide +kernel
theorem dX12_count_122 : decode cX12_count 122 = .ok (.iconst (-1), 1) := by decide +kernel
theorem dX12_count_123 : decode cX12_count 123 = .ok (.ireturn, 1) := by decide +kernel
theorem dX12_keep_0 : decode cX12_keep 0 = .ok (.aload_n 0, 1) := by decide +kernel
theorem dX12_keep_1 : decode cX12_keep 1 = .ok (.iconst 0, 1) := by decide +kernel
theorem dX12_keep_2 : decode cX12_keep 2 = .ok (.putfield 77, 3) := by decide +kernel
theorem dX12_keep_5 : decode cX12_keep 5 = .ok (.iload_n 1, 1) := by decide +kernel
theorem dX12_keep_6 : decode cX12_keep 6 = .ok (.i2l, 1) := by decide +kernel
theorem dX12_keep_7 : decode cX12_keep 7 = .ok (.lconst 0, 1) := by decide +kernel
theorem dX12_keep_8 : decode cX12_keep 8 = .ok (.ldc2_w 223, 3) := by decide +kernel
theorem dX12_keep_11 : decode cX12_keep 11 = .ok (.invokestatic 84, 3) := by decide +kernel
theorem dX12_keep_14 : decode cX12_keep 14 = .ok (.ifCond .eq 43, 3) := by decide +kernel
theorem dX12_keep_17 : decode cX12_keep 17 = .ok (.iload_n 2, 1) := by decide +kernel
theorem dX12_keep_18 : decode cX12_keep 18 = .ok (.i2l, 1) := by decide +kernel
theorem dX12_keep_19 : decode cX12_keep 19 = .ok (.lconst 0, 1) := by decide +kernel
theorem dX12_keep_20 : decode cX12_keep 20 = .ok (.lconst 1, 1) := by decide +kernel
theorem dX12_keep_21 : decode cX12_keep 21 = .ok (.invokestatic 84, 3) := by decide +kernel
theorem dX12_keep_24 : decode cX12_keep 24 = .ok (.ifCond .eq 33, 3) := by decide +kernel
theorem dX12_keep_27 : decode cX12_keep 27 = .ok (.iload_n 2, 1) := by decide +kernel
theorem dX12_keep_28 : decode cX12_keep 28 = .ok (.iconst 1, 1) := by decide +kernel
theorem dX12_keep_29 : decode cX12_keep 29 = .ok (.if_icmp .ne 30, 3) := by decide +kernel
theorem dX12_keep_32 : decode cX12_keep 32 = .ok (.iload_n 3, 1) := by decide +kernel
theorem dX12_keep_33 : decode cX12_keep 33 = .ok (.i2l, 1) := by decide +kernel
theorem dX12_keep_34 : decode cX12_keep 34 = .ok (.lconst 0, 1) := by decide +kernel
theorem dX12_keep_35 : decode cX12_keep 35 = .ok (.ldc2_w 223, 3) := by decide +kernel
theorem dX12_keep_38 : decode cX12_keep 38 = .ok (.invokestatic 84, 3) := by decide +kernel
theorem dX12_keep_41 : decode cX12_keep 41 = .ok (.ifCond .eq 16, 3) := by decide +kernel
theorem dX12_keep_44 : decode cX12_keep 44 = .ok (.iload 4, 2) := by decide +kernel
theorem dX12_keep_46 : decode cX12_keep 46 = .ok (.i2l, 1) := by decide +kernel
theorem dX12_keep_47 : decode cX12_keep 47 = .ok (.lconst 0, 1) := by decide +kernel
theorem dX12_keep_48 : decode cX12_keep 48 = .ok (.ldc2_w 232, 3) := by decide +kernel
theorem dX12_keep_51 : decode cX12_keep 51 = .ok (.invokestatic 84, 3) := by decide +kernel
theorem dX12_keep_54 : decode cX12_keep 54 = .ok (.ifCond .ne 5, 3) := by decide +kernel
theorem dX12_keep_57 : decode cX12_keep 57 = .ok (.iconst (-1), 1) := by decide +kernel
theorem dX12_keep_58 : decode cX12_keep 58 = .ok (.ireturn, 1) := by decide +kernel
theorem dX12_keep_59 : decode cX12_keep 59 = .ok (.aload_n 0, 1) := by decide +kernel
theorem dX12_keep_60 : decode cX12_keep 60 = .ok (.getfield 25, 3) := by decide +kernel
theorem dX12_keep_63 : decode cX12_keep 63 = .ok (.iload_n 1, 1) := by decide +kernel
theorem dX12_keep_64 : decode cX12_keep 64 = .ok (.iload_n 2, 1) := by decide +kernel
theorem dX12_keep_65 : decode cX12_keep 65 = .ok (.iastore, 1) := by decide +kernel
theorem dX12_keep_66 : decode cX12_keep 66 = .ok (.aload_n 0, 1) := by decide +kernel
theorem dX12_keep_67 : decode cX12_keep 67 = .ok (.getfield 28, 3) := by decide +kernel
theorem dX12_keep_70 : decode cX12_keep 70 = .ok (.iload_n 1, 1) := by decide +kernel
theorem dX12_keep_71 : decode cX12_keep 71 = .ok (.iload_n 2, 1) := by decide +kernel
theorem dX12_keep_72 : decode cX12_keep 72 = .ok (.iconst 1, 1) := by decide +kernel
theorem dX12_keep_73 : decode cX12_keep 73 = .ok (.if_icmp .ne 7, 3) := by decide +kernel
theorem dX12_keep_76 : decode cX12_keep 76 = .ok (.iload_n 3, 1) := by decide +kernel
theorem dX12_keep_77 : decode cX12_keep 77 = .ok (.goto 4, 3) := by decide +kernel
theorem dX12_keep_80 : decode cX12_keep 80 = .ok (.iconst 0, 1) := by decide +kernel
theorem dX12_keep_81 : decode cX12_keep 81 = .ok (.iastore, 1) := by decide +kernel
theorem dX12_keep_82 : decode cX12_keep 82 = .ok (.aload_n 0, 1) := by decide +kernel
theorem dX12_keep_83 : decode cX12_keep 83 = .ok (.getfield 31, 3) := by decide +kernel
theorem dX12_keep_86 : decode cX12_keep 86 = .ok (.iload_n 1, 1) := by decide +kernel
theorem dX12_keep_87 : decode cX12_keep 87 = .ok (.iload_n 2, 1) := by decide +kernel
theorem dX12_keep_88 : decode cX12_keep 88 = .ok (.iconst 1, 1) := by decide +kernel
theorem dX12_keep_89 : decode cX12_keep 89 = .ok (.if_icmp .ne 8, 3) := by decide +kernel
theorem dX12_keep_92 : decode cX12_keep 92 = .ok (.iload 4, 2) := by decide +kernel
theorem dX12_keep_94 : decode cX12_keep 94 = .ok (.goto 4, 3) := by decide +kernel
theorem dX12_keep_97 : decode cX12_keep 97 = .ok (.iconst 0, 1) := by decide +kernel
theorem dX12_keep_98 : decode cX12_keep 98 = .ok (.iastore, 1) := by decide +kernel
theorem dX12_keep_99 : decode cX12_keep 99 = .ok (.iconst 0, 1) := by decide +kernel
theorem dX12_keep_100 : decode cX12_keep 100 = .ok (.ireturn, 1) := by decide +kernel
theorem dX12_wrongRow_0 : decode cX12_wrongRow 0 = .ok (.iload_n 1, 1) := by decide +kernel
theorem dX12_wrongRow_1 : decode cX12_wrongRow 1 = .ok (.i2l, 1) := by decide +kernel
theorem dX12_wrongRow_2 : decode cX12_wrongRow 2 = .ok (.lconst 0, 1) := by decide +kernel
theorem dX12_wrongRow_3 : decode cX12_wrongRow 3 = .ok (.ldc2_w 223, 3) := by decide +kernel
theorem dX12_wrongRow_6 : decode cX12_wrongRow 6 = .ok (.invokestatic 84, 3) := by decide +kernel
theorem dX12_wrongRow_9 : decode cX12_wrongRow 9 = .ok (.ifCond .ne 7, 3) := by decide +kernel
theorem dX12_wrongRow_12 : decode cX12_wrongRow 12 = .ok (.iconst (-1), 1) := by decide +kernel
theorem dX12_wrongRow_13 : decode cX12_wrongRow 13 = .ok (.goto 33, 3) := by decide +kernel
theorem dX12_wrongRow_16 : decode cX12_wrongRow 16 = .ok (.aload_n 0, 1) := by decide +kernel
theorem dX12_wrongRow_17 : decode cX12_wrongRow 17 = .ok (.getfield 25, 3) := by decide +kernel
theorem dX12_wrongRow_20 : decode cX12_wrongRow 20 = .ok (.iload_n 1, 1) := by decide +kernel
theorem dX12_wrongRow_21 : decode cX12_wrongRow 21 = .ok (.iaload, 1) := by decide +kernel
theorem dX12_wrongRow_22 : decode cX12_wrongRow 22 = .ok (.ifCond .ne 8, 3) := by decide +kernel
theorem dX12_wrongRow_25 : decode cX12_wrongRow 25 = .ok (.bipush (-11), 2) := by decide +kernel
theorem dX12_wrongRow_27 : decode cX12_wrongRow 27 = .ok (.goto 19, 3) := by decide +kernel
theorem dX12_wrongRow_30 : decode cX12_wrongRow 30 = .ok (.aload_n 0, 1) := by decide +kernel
theorem dX12_wrongRow_31 : decode cX12_wrongRow 31 = .ok (.getfield 25, 3) := by decide +kernel
theorem dX12_wrongRow_34 : decode cX12_wrongRow 34 = .ok (.iload_n 1, 1) := by decide +kernel
theorem dX12_wrongRow_35 : decode cX12_wrongRow 35 = .ok (.iaload, 1) := by decide +kernel
theorem dX12_wrongRow_36 : decode cX12_wrongRow 36 = .ok (.iconst 2, 1) := by decide +kernel
theorem dX12_wrongRow_37 : decode cX12_wrongRow 37 = .ok (.if_icmp .eq 8, 3) := by decide +kernel
theorem dX12_wrongRow_40 : decode cX12_wrongRow 40 = .ok (.bipush (-12), 2) := by decide +kernel
theorem dX12_wrongRow_42 : decode cX12_wrongRow 42 = .ok (.goto 4, 3) := by decide +kernel
theorem dX12_wrongRow_45 : decode cX12_wrongRow 45 = .ok (.iconst 0, 1) := by decide +kernel
theorem dX12_wrongRow_46 : decode cX12_wrongRow 46 = .ok (.ireturn, 1) := by decide +kernel
theorem dX12_narrowed_0 : decode cX12_narrowed 0 = .ok (.iload_n 1, 1) := by decide +kernel
theorem dX12_narrowed_1 : decode cX12_narrowed 1 = .ok (.ifCond .ne 9, 3) := by decide +kernel
theorem dX12_narrowed_4 : decode cX12_narrowed 4 = .ok (.iload_n 0, 1) := by decide +kernel
theorem dX12_narrowed_5 : decode cX12_narrowed 5 = .ok (.i2b, 1) := by decide +kernel
theorem dX12_narrowed_6 : decode cX12_narrowed 6 = .ok (.i2l, 1) := by decide +kernel
theorem dX12_narrowed_7 : decode cX12_narrowed 7 = .ok (.goto 16, 3) := by decide +kernel
theorem dX12_narrowed_10 : decode cX12_narrowed 10 = .ok (.iload_n 1, 1) := by decide +kernel
theorem dX12_narrowed_11 : decode cX12_narrowed 11 = .ok (.iconst 1, 1) := by decide +kernel
theorem dX12_narrowed_12 : decode cX12_narrowed 12 = .ok (.if_icmp .ne 9, 3) := by decide +kernel
theorem dX12_narrowed_15 : decode cX12_narrowed 15 = .ok (.iload_n 0, 1) := by decide +kernel
theorem dX12_narrowed_16 : decode cX12_narrowed 16 = .ok (.i2s, 1) := by decide +kernel
theorem dX12_narrowed_17 : decode cX12_narrowed 17 = .ok (.i2l, 1) := by decide +kernel
theorem dX12_narrowed_18 : decode cX12_narrowed 18 = .ok (.goto 5, 3) := by decide +kernel
theorem dX12_narrowed_21 : decode cX12_narrowed 21 = .ok (.iload_n 0, 1) := by decide +kernel
theorem dX12_narrowed_22 : decode cX12_narrowed 22 = .ok (.i2l, 1) := by decide +kernel
theorem dX12_narrowed_23 : decode cX12_narrowed 23 = .ok (.lreturn, 1) := by decide +kernel
theorem dX12_row_0 : decode cX12_row 0 = .ok (.aload_n 0, 1) := by decide +kernel
theorem dX12_row_1 : decode cX12_row 1 = .ok (.iconst 0, 1) := by decide +kernel
theorem dX12_row_2 : decode cX12_row 2 = .ok (.putfield 77, 3) := by decide +kernel
theorem dX12_row_5 : decode cX12_row 5 = .ok (.iload_n 1, 1) := by decide +kernel
theorem dX12_row_6 : decode cX12_row 6 = .ok (.i2l, 1) := by decide +kernel
theorem dX12_row_7 : decode cX12_row 7 = .ok (.lconst 0, 1) := by decide +kernel
theorem dX12_row_8 : decode cX12_row 8 = .ok (.ldc2_w 223, 3) := by decide +kernel
theorem dX12_row_11 : decode cX12_row 11 = .ok (.invokestatic 84, 3) := by decide +kernel
theorem dX12_row_14 : decode cX12_row 14 = .ok (.ifCond .eq 21, 3) := by decide +kernel
theorem dX12_row_17 : decode cX12_row 17 = .ok (.iload_n 2, 1) := by decide +kernel
theorem dX12_row_18 : decode cX12_row 18 = .ok (.i2l, 1) := by decide +kernel
theorem dX12_row_19 : decode cX12_row 19 = .ok (.lconst 0, 1) := by decide +kernel
theorem dX12_row_20 : decode cX12_row 20 = .ok (.ldc2_w 302, 3) := by decide +kernel
theorem dX12_row_23 : decode cX12_row 23 = .ok (.invokestatic 84, 3) := by decide +kernel
theorem dX12_row_26 : decode cX12_row 26 = .ok (.ifCond .eq 9, 3) := by decide +kernel
theorem dX12_row_29 : decode cX12_row 29 = .ok (.iload_n 3, 1) := by decide +kernel
theorem dX12_row_30 : decode cX12_row 30 = .ok (.bipush 100, 2) := by decide +kernel
theorem dX12_row_32 : decode cX12_row 32 = .ok (.if_icmp .le 5, 3) := by decide +kernel
theorem dX12_row_35 : decode cX12_row 35 = .ok (.iconst (-1), 1) := by decide +kernel
theorem dX12_row_36 : decode cX12_row 36 = .ok (.ireturn, 1) := by decide +kernel
theorem dX12_row_37 : decode cX12_row 37 = .ok (.iload_n 3, 1) := by decide +kernel
theorem dX12_row_38 : decode cX12_row 38 = .ok (.ifCond .ge 6, 3) := by decide +kernel
theorem dX12_row_41 : decode cX12_row 41 = .ok (.bipush (-14), 2) := by decide +kernel
theorem dX12_row_43 : decode cX12_row 43 = .ok (.ireturn, 1) := by decide +kernel
theorem dX12_row_44 : decode cX12_row 44 = .ok (.aload_n 0, 1) := by decide +kernel
theorem dX12_row_45 : decode cX12_row 45 = .ok (.getfield 25, 3) := by decide +kernel
theorem dX12_row_48 : decode cX12_row 48 = .ok (.iload_n 1, 1) := by decide +kernel
theorem dX12_row_49 : decode cX12_row 49 = .ok (.iconst 2, 1) := by decide +kernel
theorem dX12_row_50 : decode cX12_row 50 = .ok (.iastore, 1) := by decide +kernel
theorem dX12_row_51 : decode cX12_row 51 = .ok (.aload_n 0, 1) := by decide +kernel
theorem dX12_row_52 : decode cX12_row 52 = .ok (.getfield 34, 3) := by decide +kernel
theorem dX12_row_55 : decode cX12_row 55 = .ok (.iload_n 1, 1) := by decide +kernel
theorem dX12_row_56 : decode cX12_row 56 = .ok (.iload_n 2, 1) := by decide +kernel
theorem dX12_row_57 : decode cX12_row 57 = .ok (.iastore, 1) := by decide +kernel
theorem dX12_row_58 : decode cX12_row 58 = .ok (.aload_n 0, 1) := by decide +kernel
theorem dX12_row_59 : decode cX12_row 59 = .ok (.getfield 37, 3) := by decide +kernel
theorem dX12_row_62 : decode cX12_row 62 = .ok (.iload_n 1, 1) := by decide +kernel
theorem dX12_row_63 : decode cX12_row 63 = .ok (.iload_n 3, 1) := by decide +kernel
theorem dX12_row_64 : decode cX12_row 64 = .ok (.iastore, 1) := by decide +kernel
theorem dX12_row_65 : decode cX12_row 65 = .ok (.iconst 0, 1) := by decide +kernel
theorem dX12_row_66 : decode cX12_row 66 = .ok (.istore 4, 2) := by decide +kernel
theorem dX12_row_68 : decode cX12_row 68 = .ok (.iload 4, 2) := by decide +kernel
theorem dX12_row_70 : decode cX12_row 70 = .ok (.bipush 100, 2) := by decide +kernel
theorem dX12_row_72 : decode cX12_row 72 = .ok (.if_icmp .ge 22, 3) := by decide +kernel
theorem dX12_row_75 : decode cX12_row 75 = .ok (.aload_n 0, 1) := by decide +kernel
theorem dX12_row_76 : decode cX12_row 76 = .ok (.getfield 40, 3) := by decide +kernel
theorem dX12_row_79 : decode cX12_row 79 = .ok (.bipush 100, 2) := by decide +kernel
theorem dX12_row_81 : decode cX12_row 81 = .ok (.iload_n 1, 1) := by decide +kernel
theorem dX12_row_82 : decode cX12_row 82 = .ok (.imul, 1) := by decide +kernel
theorem dX12_row_83 : decode cX12_row 83 = .ok (.iload 4, 2) := by decide +kernel
theorem dX12_row_85 : decode cX12_row 85 = .ok (.iadd, 1) := by decide +kernel
theorem dX12_row_86 : decode cX12_row 86 = .ok (.lconst 0, 1) := by decide +kernel
theorem dX12_row_87 : decode cX12_row 87 = .ok (.lastore, 1) := by decide +kernel
theorem dX12_row_88 : decode cX12_row 88 = .ok (.iinc 4 1, 3) := by decide +kernel
theorem dX12_row_91 : decode cX12_row 91 = .ok (.goto (-23), 3) := by decide +kernel
theorem dX12_row_94 : decode cX12_row 94 = .ok (.iconst 0, 1) := by decide +kernel
theorem dX12_row_95 : decode cX12_row 95 = .ok (.ireturn, 1) := by decide +kernel
theorem dX12_put_0 : decode cX12_put 0 = .ok (.aload_n 0, 1) := by decide +kernel
theorem dX12_put_1 : decode cX12_put 1 = .ok (.iconst 0, 1) := by decide +kernel
end
section
theorem dX12_put_2 : decode cX12_put 2 = .ok (.putfield 77, 3) := by decide +kernel
theorem dX12_put_5 : decode cX12_put 5 = .ok (.aload_n 0, 1) := by decide +kernel
theorem dX12_put_6 : decode cX12_put 6 = .ok (.iload_n 1, 1) := by decide +kernel
theorem dX12_put_7 : decode cX12_put 7 = .ok (.invokevirtual 189, 3) := by decide +kernel
theorem dX12_put_10 : decode cX12_put 10 = .ok (.istore 4, 2) := by decide +kernel
theorem dX12_put_12 : decode cX12_put 12 = .ok (.iload 4, 2) := by decide +kernel
theorem dX12_put_14 : decode cX12_put 14 = .ok (.ifCond .ge 6, 3) := by decide +kernel
theorem dX12_put_17 : decode cX12_put 17 = .ok (.iload 4, 2) := by decide +kernel
theorem dX12_put_19 : decode cX12_put 19 = .ok (.ireturn, 1) := by decide +kernel
theorem dX12_put_20 : decode cX12_put 20 = .ok (.iload_n 2, 1) := by decide +kernel
theorem dX12_put_21 : decode cX12_put 21 = .ok (.i2l, 1) := by decide +kernel
theorem dX12_put_22 : decode cX12_put 22 = .ok (.lconst 0, 1) := by decide +kernel
theorem dX12_put_23 : decode cX12_put 23 = .ok (.aload_n 0, 1) := by decide +kernel
theorem dX12_put_24 : decode cX12_put 24 = .ok (.getfield 37, 3) := by decide +kernel
theorem dX12_put_27 : decode cX12_put 27 = .ok (.iload_n 1, 1) := by decide +kernel
theorem dX12_put_28 : decode cX12_put 28 = .ok (.iaload, 1) := by decide +kernel
theorem dX12_put_29 : decode cX12_put 29 = .ok (.iconst 1, 1) := by decide +kernel
theorem dX12_put_30 : decode cX12_put 30 = .ok (.isub, 1) := by decide +kernel
theorem dX12_put_31 : decode cX12_put 31 = .ok (.i2l, 1) := by decide +kernel
theorem dX12_put_32 : decode cX12_put 32 = .ok (.invokestatic 84, 3) := by decide +kernel
theorem dX12_put_35 : decode cX12_put 35 = .ok (.ifCond .ne 6, 3) := by decide +kernel
theorem dX12_put_38 : decode cX12_put 38 = .ok (.bipush (-13), 2) := by decide +kernel
theorem dX12_put_40 : decode cX12_put 40 = .ok (.ireturn, 1) := by decide +kernel
theorem dX12_put_41 : decode cX12_put 41 = .ok (.aload_n 0, 1) := by decide +kernel
theorem dX12_put_42 : decode cX12_put 42 = .ok (.getfield 40, 3) := by decide +kernel
theorem dX12_put_45 : decode cX12_put 45 = .ok (.bipush 100, 2) := by decide +kernel
theorem dX12_put_47 : decode cX12_put 47 = .ok (.iload_n 1, 1) := by decide +kernel
theorem dX12_put_48 : decode cX12_put 48 = .ok (.imul, 1) := by decide +kernel
theorem dX12_put_49 : decode cX12_put 49 = .ok (.iload_n 2, 1) := by decide +kernel
theorem dX12_put_50 : decode cX12_put 50 = .ok (.iadd, 1) := by decide +kernel
theorem dX12_put_51 : decode cX12_put 51 = .ok (.iload_n 3, 1) := by decide +kernel
theorem dX12_put_52 : decode cX12_put 52 = .ok (.aload_n 0, 1) := by decide +kernel
theorem dX12_put_53 : decode cX12_put 53 = .ok (.getfield 34, 3) := by decide +kernel
theorem dX12_put_56 : decode cX12_put 56 = .ok (.iload_n 1, 1) := by decide +kernel
theorem dX12_put_57 : decode cX12_put 57 = .ok (.iaload, 1) := by decide +kernel
theorem dX12_put_58 : decode cX12_put 58 = .ok (.invokestatic 336, 3) := by decide +kernel
theorem dX12_put_61 : decode cX12_put 61 = .ok (.lastore, 1) := by decide +kernel
theorem dX12_put_62 : decode cX12_put 62 = .ok (.iconst 0, 1) := by decide +kernel
theorem dX12_put_63 : decode cX12_put 63 = .ok (.ireturn, 1) := by decide +kernel
theorem dX12_element_0 : decode cX12_element 0 = .ok (.aload_n 0, 1) := by decide +kernel
theorem dX12_element_1 : decode cX12_element 1 = .ok (.iload_n 1, 1) := by decide +kernel
theorem dX12_element_2 : decode cX12_element 2 = .ok (.invokevirtual 189, 3) := by decide +kernel
theorem dX12_element_5 : decode cX12_element 5 = .ok (.istore_n 3, 1) := by decide +kernel
theorem dX12_element_6 : decode cX12_element 6 = .ok (.aload_n 0, 1) := by decide +kernel
theorem dX12_element_7 : decode cX12_element 7 = .ok (.iload_n 3, 1) := by decide +kernel
theorem dX12_element_8 : decode cX12_element 8 = .ok (.iconst (-1), 1) := by decide +kernel
theorem dX12_element_9 : decode cX12_element 9 = .ok (.if_icmp .ne 7, 3) := by decide +kernel
theorem dX12_element_12 : decode cX12_element 12 = .ok (.iconst 1, 1) := by decide +kernel
theorem dX12_element_13 : decode cX12_element 13 = .ok (.goto 30, 3) := by decide +kernel
theorem dX12_element_16 : decode cX12_element 16 = .ok (.iload_n 3, 1) := by decide +kernel
theorem dX12_element_17 : decode cX12_element 17 = .ok (.ifCond .lt 21, 3) := by decide +kernel
theorem dX12_element_20 : decode cX12_element 20 = .ok (.iload_n 2, 1) := by decide +kernel
theorem dX12_element_21 : decode cX12_element 21 = .ok (.i2l, 1) := by decide +kernel
theorem dX12_element_22 : decode cX12_element 22 = .ok (.lconst 0, 1) := by decide +kernel
theorem dX12_element_23 : decode cX12_element 23 = .ok (.aload_n 0, 1) := by decide +kernel
theorem dX12_element_24 : decode cX12_element 24 = .ok (.getfield 37, 3) := by decide +kernel
theorem dX12_element_27 : decode cX12_element 27 = .ok (.iload_n 1, 1) := by decide +kernel
theorem dX12_element_28 : decode cX12_element 28 = .ok (.iaload, 1) := by decide +kernel
theorem dX12_element_29 : decode cX12_element 29 = .ok (.iconst 1, 1) := by decide +kernel
theorem dX12_element_30 : decode cX12_element 30 = .ok (.isub, 1) := by decide +kernel
theorem dX12_element_31 : decode cX12_element 31 = .ok (.i2l, 1) := by decide +kernel
theorem dX12_element_32 : decode cX12_element 32 = .ok (.invokestatic 84, 3) := by decide +kernel
theorem dX12_element_35 : decode cX12_element 35 = .ok (.ifCond .ne 7, 3) := by decide +kernel
theorem dX12_element_38 : decode cX12_element 38 = .ok (.iconst 2, 1) := by decide +kernel
theorem dX12_element_39 : decode cX12_element 39 = .ok (.goto 4, 3) := by decide +kernel
theorem dX12_element_42 : decode cX12_element 42 = .ok (.iconst 0, 1) := by decide +kernel
theorem dX12_element_43 : decode cX12_element 43 = .ok (.putfield 77, 3) := by decide +kernel
theorem dX12_element_46 : decode cX12_element 46 = .ok (.aload_n 0, 1) := by decide +kernel
theorem dX12_element_47 : decode cX12_element 47 = .ok (.getfield 77, 3) := by decide +kernel
theorem dX12_element_50 : decode cX12_element 50 = .ok (.ifCond .le 7, 3) := by decide +kernel
theorem dX12_element_53 : decode cX12_element 53 = .ok (.lconst 0, 1) := by decide +kernel
theorem dX12_element_54 : decode cX12_element 54 = .ok (.goto 14, 3) := by decide +kernel
theorem dX12_element_57 : decode cX12_element 57 = .ok (.aload_n 0, 1) := by decide +kernel
theorem dX12_element_58 : decode cX12_element 58 = .ok (.getfield 40, 3) := by decide +kernel
theorem dX12_element_61 : decode cX12_element 61 = .ok (.bipush 100, 2) := by decide +kernel
theorem dX12_element_63 : decode cX12_element 63 = .ok (.iload_n 1, 1) := by decide +kernel
theorem dX12_element_64 : decode cX12_element 64 = .ok (.imul, 1) := by decide +kernel
theorem dX12_element_65 : decode cX12_element 65 = .ok (.iload_n 2, 1) := by decide +kernel
theorem dX12_element_66 : decode cX12_element 66 = .ok (.iadd, 1) := by decide +kernel
theorem dX12_element_67 : decode cX12_element 67 = .ok (.laload, 1) := by decide +kernel
theorem dX12_element_68 : decode cX12_element 68 = .ok (.lreturn, 1) := by decide +kernel
theorem dX12_copy_0 : decode cX12_copy 0 = .ok (.aload_n 0, 1) := by decide +kernel
theorem dX12_copy_1 : decode cX12_copy 1 = .ok (.iconst 0, 1) := by decide +kernel
theorem dX12_copy_2 : decode cX12_copy 2 = .ok (.putfield 77, 3) := by decide +kernel
theorem dX12_copy_5 : decode cX12_copy 5 = .ok (.iload_n 1, 1) := by decide +kernel
theorem dX12_copy_6 : decode cX12_copy 6 = .ok (.i2l, 1) := by decide +kernel
theorem dX12_copy_7 : decode cX12_copy 7 = .ok (.lconst 0, 1) := by decide +kernel
theorem dX12_copy_8 : decode cX12_copy 8 = .ok (.ldc2_w 223, 3) := by decide +kernel
theorem dX12_copy_11 : decode cX12_copy 11 = .ok (.invokestatic 84, 3) := by decide +kernel
theorem dX12_copy_14 : decode cX12_copy 14 = .ok (.ifCond .eq 15, 3) := by decide +kernel
theorem dX12_copy_17 : decode cX12_copy 17 = .ok (.iload_n 3, 1) := by decide +kernel
theorem dX12_copy_18 : decode cX12_copy 18 = .ok (.i2l, 1) := by decide +kernel
theorem dX12_copy_19 : decode cX12_copy 19 = .ok (.lconst 0, 1) := by decide +kernel
theorem dX12_copy_20 : decode cX12_copy 20 = .ok (.ldc2_w 223, 3) := by decide +kernel
theorem dX12_copy_23 : decode cX12_copy 23 = .ok (.invokestatic 84, 3) := by decide +kernel
theorem dX12_copy_26 : decode cX12_copy 26 = .ok (.ifCond .ne 5, 3) := by decide +kernel
theorem dX12_copy_29 : decode cX12_copy 29 = .ok (.iconst (-1), 1) := by decide +kernel
theorem dX12_copy_30 : decode cX12_copy 30 = .ok (.ireturn, 1) := by decide +kernel
theorem dX12_copy_31 : decode cX12_copy 31 = .ok (.aload_n 0, 1) := by decide +kernel
theorem dX12_copy_32 : decode cX12_copy 32 = .ok (.getfield 25, 3) := by decide +kernel
theorem dX12_copy_35 : decode cX12_copy 35 = .ok (.iload_n 1, 1) := by decide +kernel
theorem dX12_copy_36 : decode cX12_copy 36 = .ok (.iaload, 1) := by decide +kernel
theorem dX12_copy_37 : decode cX12_copy 37 = .ok (.ifCond .eq 12, 3) := by decide +kernel
theorem dX12_copy_40 : decode cX12_copy 40 = .ok (.aload_n 0, 1) := by decide +kernel
theorem dX12_copy_41 : decode cX12_copy 41 = .ok (.getfield 25, 3) := by decide +kernel
theorem dX12_copy_44 : decode cX12_copy 44 = .ok (.iload_n 3, 1) := by decide +kernel
theorem dX12_copy_45 : decode cX12_copy 45 = .ok (.iaload, 1) := by decide +kernel
theorem dX12_copy_46 : decode cX12_copy 46 = .ok (.ifCond .ne 6, 3) := by decide +kernel
theorem dX12_copy_49 : decode cX12_copy 49 = .ok (.bipush (-11), 2) := by decide +kernel
theorem dX12_copy_51 : decode cX12_copy 51 = .ok (.ireturn, 1) := by decide +kernel
theorem dX12_copy_52 : decode cX12_copy 52 = .ok (.aload_n 0, 1) := by decide +kernel
theorem dX12_copy_53 : decode cX12_copy 53 = .ok (.getfield 25, 3) := by decide +kernel
theorem dX12_copy_56 : decode cX12_copy 56 = .ok (.iload_n 1, 1) := by decide +kernel
theorem dX12_copy_57 : decode cX12_copy 57 = .ok (.iaload, 1) := by decide +kernel
theorem dX12_copy_58 : decode cX12_copy 58 = .ok (.iconst 2, 1) := by decide +kernel
theorem dX12_copy_59 : decode cX12_copy 59 = .ok (.if_icmp .ne 28, 3) := by decide +kernel
theorem dX12_copy_62 : decode cX12_copy 62 = .ok (.aload_n 0, 1) := by decide +kernel
theorem dX12_copy_63 : decode cX12_copy 63 = .ok (.getfield 25, 3) := by decide +kernel
theorem dX12_copy_66 : decode cX12_copy 66 = .ok (.iload_n 3, 1) := by decide +kernel
theorem dX12_copy_67 : decode cX12_copy 67 = .ok (.iaload, 1) := by decide +kernel
theorem dX12_copy_68 : decode cX12_copy 68 = .ok (.iconst 2, 1) := by decide +kernel
theorem dX12_copy_69 : decode cX12_copy 69 = .ok (.if_icmp .ne 18, 3) := by decide +kernel
theorem dX12_copy_72 : decode cX12_copy 72 = .ok (.aload_n 0, 1) := by decide +kernel
theorem dX12_copy_73 : decode cX12_copy 73 = .ok (.getfield 34, 3) := by decide +kernel
theorem dX12_copy_76 : decode cX12_copy 76 = .ok (.iload_n 1, 1) := by decide +kernel
theorem dX12_copy_77 : decode cX12_copy 77 = .ok (.iaload, 1) := by decide +kernel
theorem dX12_copy_78 : decode cX12_copy 78 = .ok (.aload_n 0, 1) := by decide +kernel
theorem dX12_copy_79 : decode cX12_copy 79 = .ok (.getfield 34, 3) := by decide +kernel
theorem dX12_copy_82 : decode cX12_copy 82 = .ok (.iload_n 3, 1) := by decide +kernel
theorem dX12_copy_83 : decode cX12_copy 83 = .ok (.iaload, 1) := by decide +kernel
theorem dX12_copy_84 : decode cX12_copy 84 = .ok (.if_icmp .eq 6, 3) := by decide +kernel
theorem dX12_copy_87 : decode cX12_copy 87 = .ok (.bipush (-12), 2) := by decide +kernel
theorem dX12_copy_89 : decode cX12_copy 89 = .ok (.ireturn, 1) := by decide +kernel
theorem dX12_copy_90 : decode cX12_copy 90 = .ok (.iload 5, 2) := by decide +kernel
theorem dX12_copy_92 : decode cX12_copy 92 = .ok (.ifCond .lt 39, 3) := by decide +kernel
theorem dX12_copy_95 : decode cX12_copy 95 = .ok (.iload_n 2, 1) := by decide +kernel
theorem dX12_copy_96 : decode cX12_copy 96 = .ok (.ifCond .lt 35, 3) := by decide +kernel
theorem dX12_copy_99 : decode cX12_copy 99 = .ok (.iload 4, 2) := by decide +kernel
theorem dX12_copy_101 : decode cX12_copy 101 = .ok (.ifCond .lt 30, 3) := by decide +kernel
theorem dX12_copy_104 : decode cX12_copy 104 = .ok (.iload_n 2, 1) := by decide +kernel
theorem dX12_copy_105 : decode cX12_copy 105 = .ok (.aload_n 0, 1) := by decide +kernel
theorem dX12_copy_106 : decode cX12_copy 106 = .ok (.getfield 37, 3) := by decide +kernel
theorem dX12_copy_109 : decode cX12_copy 109 = .ok (.iload_n 1, 1) := by decide +kernel
theorem dX12_copy_110 : decode cX12_copy 110 = .ok (.iaload, 1) := by decide +kernel
theorem dX12_copy_111 : decode cX12_copy 111 = .ok (.iload 5, 2) := by decide +kernel
theorem dX12_copy_113 : decode cX12_copy 113 = .ok (.isub, 1) := by decide +kernel
theorem dX12_copy_114 : decode cX12_copy 114 = .ok (.if_icmp .gt 17, 3) := by decide +kernel
theorem dX12_copy_117 : decode cX12_copy 117 = .ok (.iload 4, 2) := by decide +kernel
theorem dX12_copy_119 : decode cX12_copy 119 = .ok (.aload_n 0, 1) := by decide +kernel
theorem dX12_copy_120 : decode cX12_copy 120 = .ok (.getfield 37, 3) := by decide +kernel
theorem dX12_copy_123 : decode cX12_copy 123 = .ok (.iload_n 3, 1) := by decide +kernel
theorem dX12_copy_124 : decode cX12_copy 124 = .ok (.iaload, 1) := by decide +kernel
theorem dX12_copy_125 : decode cX12_copy 125 = .ok (.iload 5, 2) := by decide +kernel
theorem dX12_copy_127 : decode cX12_copy 127 = .ok (.isub, 1) := by decide +kernel
theorem dX12_copy_128 : decode cX12_copy 128 = .ok (.if_icmp .le 6, 3) := by decide +kernel
theorem dX12_copy_131 : decode cX12_copy 131 = .ok (.bipush (-13), 2) := by decide +kernel
theorem dX12_copy_133 : decode cX12_copy 133 = .ok (.ireturn, 1) := by decide +kernel
theorem dX12_copy_134 : decode cX12_copy 134 = .ok (.iconst 0, 1) := by decide +kernel
theorem dX12_copy_135 : decode cX12_copy 135 = .ok (.istore 6, 2) := by decide +kernel
theorem dX12_copy_137 : decode cX12_copy 137 = .ok (.iload 6, 2) := by decide +kernel
theorem dX12_copy_139 : decode cX12_copy 139 = .ok (.iload 5, 2) := by decide +kernel
theorem dX12_copy_141 : decode cX12_copy 141 = .ok (.if_icmp .ge 30, 3) := by decide +kernel
theorem dX12_copy_144 : decode cX12_copy 144 = .ok (.aload_n 0, 1) := by decide +kernel
theorem dX12_copy_145 : decode cX12_copy 145 = .ok (.getfield 74, 3) := by decide +kernel
theorem dX12_copy_148 : decode cX12_copy 148 = .ok (.iload 6, 2) := by decide +kernel
theorem dX12_copy_150 : decode cX12_copy 150 = .ok (.aload_n 0, 1) := by decide +kernel
theorem dX12_copy_151 : decode cX12_copy 151 = .ok (.getfield 40, 3) := by decide +kernel
theorem dX12_copy_154 : decode cX12_copy 154 = .ok (.bipush 100, 2) := by decide +kernel
theorem dX12_copy_156 : decode cX12_copy 156 = .ok (.iload_n 1, 1) := by decide +kernel
theorem dX12_copy_157 : decode cX12_copy 157 = .ok (.imul, 1) := by decide +kernel
theorem dX12_copy_158 : decode cX12_copy 158 = .ok (.iload_n 2, 1) := by decide +kernel
theorem dX12_copy_159 : decode cX12_copy 159 = .ok (.iadd, 1) := by decide +kernel
theorem dX12_copy_160 : decode cX12_copy 160 = .ok (.iload 6, 2) := by decide +kernel
theorem dX12_copy_162 : decode cX12_copy 162 = .ok (.iadd, 1) := by decide +kernel
theorem dX12_copy_163 : decode cX12_copy 163 = .ok (.laload, 1) := by decide +kernel
theorem dX12_copy_164 : decode cX12_copy 164 = .ok (.lastore, 1) := by decide +kernel
theorem dX12_copy_165 : decode cX12_copy 165 = .ok (.iinc 6 1, 3) := by decide +kernel
theorem dX12_copy_168 : decode cX12_copy 168 = .ok (.goto (-31), 3) := by decide +kernel
theorem dX12_copy_171 : decode cX12_copy 171 = .ok (.iconst 0, 1) := by decide +kernel
theorem dX12_copy_172 : decode cX12_copy 172 = .ok (.istore 6, 2) := by decide +kernel
theorem dX12_copy_174 : decode cX12_copy 174 = .ok (.iload 6, 2) := by decide +kernel
theorem dX12_copy_176 : decode cX12_copy 176 = .ok (.iload 5, 2) := by decide +kernel
theorem dX12_copy_178 : decode cX12_copy 178 = .ok (.if_icmp .ge 31, 3) := by decide +kernel
theorem dX12_copy_181 : decode cX12_copy 181 = .ok (.aload_n 0, 1) := by decide +kernel
theorem dX12_copy_182 : decode cX12_copy 182 = .ok (.getfield 40, 3) := by decide +kernel
theorem dX12_copy_185 : decode cX12_copy 185 = .ok (.bipush 100, 2) := by decide +kernel
theorem dX12_copy_187 : decode cX12_copy 187 = .ok (.iload_n 3, 1) := by decide +kernel
theorem dX12_copy_188 : decode cX12_copy 188 = .ok (.imul, 1) := by decide +kernel
theorem dX12_copy_189 : decode cX12_copy 189 = .ok (.iload 4, 2) := by decide +kernel
theorem dX12_copy_191 : decode cX12_copy 191 = .ok (.iadd, 1) := by decide +kernel
theorem dX12_copy_192 : decode cX12_copy 192 = .ok (.iload 6, 2) := by decide +kernel
theorem dX12_copy_194 : decode cX12_copy 194 = .ok (.iadd, 1) := by decide +kernel
theorem dX12_copy_195 : decode cX12_copy 195 = .ok (.aload_n 0, 1) := by decide +kernel
theorem dX12_copy_196 : decode cX12_copy 196 = .ok (.getfield 74, 3) := by decide +kernel
theorem dX12_copy_199 : decode cX12_copy 199 = .ok (.iload 6, 2) := by decide +kernel
theorem dX12_copy_201 : decode cX12_copy 201 = .ok (.laload, 1) := by decide +kernel
theorem dX12_copy_202 : decode cX12_copy 202 = .ok (.lastore, 1) := by decide +kernel
theorem dX12_copy_203 : decode cX12_copy 203 = .ok (.iinc 6 1, 3) := by decide +kernel
theorem dX12_copy_206 : decode cX12_copy 206 = .ok (.goto (-32), 3) := by decide +kernel
theorem dX12_copy_209 : decode cX12_copy 209 = .ok (.iload 5, 2) := by decide +kernel
theorem dX12_copy_211 : decode cX12_copy 211 = .ok (.ireturn, 1) := by decide +kernel
theorem dX12_costOf_0 : decode cX12_costOf 0 = .ok (.iconst 5, 1) := by decide +kernel
theorem dX12_costOf_1 : decode cX12_costOf 1 = .ok (.iload_n 1, 1) := by decide +kernel
theorem dX12_costOf_2 : decode cX12_costOf 2 = .ok (.iadd, 1) := by decide +kernel
theorem dX12_costOf_3 : decode cX12_costOf 3 = .ok (.istore_n 2, 1) := by decide +kernel
theorem dX12_costOf_4 : decode cX12_costOf 4 = .ok (.iload_n 0, 1) := by decide +kernel
theorem dX12_costOf_5 : decode cX12_costOf 5 = .ok (.tableswitch 64 0 6 #[43, 45, 47, 49, 52, 56, 60], 43) := by decide +kernel
theorem dX12_costOf_48 : decode cX12_costOf 48 = .ok (.iconst 5, 1) := by decide +kernel
theorem dX12_costOf_49 : decode cX12_costOf 49 = .ok (.ireturn, 1) := by decide +kernel
theorem dX12_costOf_50 : decode cX12_costOf 50 = .ok (.iload_n 2, 1) := by decide +kernel
theorem dX12_costOf_51 : decode cX12_costOf 51 = .ok (.ireturn, 1) := by decide +kernel
theorem dX12_costOf_52 : decode cX12_costOf 52 = .ok (.iconst 3, 1) := by decide +kernel
theorem dX12_costOf_53 : decode cX12_costOf 53 = .ok (.ireturn, 1) := by decide +kernel
theorem dX12_costOf_54 : decode cX12_costOf 54 = .ok (.bipush 10, 2) := by decide +kernel
theorem dX12_costOf_56 : decode cX12_costOf 56 = .ok (.ireturn, 1) := by decide +kernel
theorem dX12_costOf_57 : decode cX12_costOf 57 = .ok (.iload_n 2, 1) := by decide +kernel
theorem dX12_costOf_58 : decode cX12_costOf 58 = .ok (.iconst 1, 1) := by decide +kernel
theorem dX12_costOf_59 : decode cX12_costOf 59 = .ok (.isub, 1) := by decide +kernel
theorem dX12_costOf_60 : decode cX12_costOf 60 = .ok (.ireturn, 1) := by decide +kernel
theorem dX12_costOf_61 : decode cX12_costOf 61 = .ok (.iload_n 2, 1) := by decide +kernel
theorem dX12_costOf_62 : decode cX12_costOf 62 = .ok (.iconst 4, 1) := by decide +kernel
theorem dX12_costOf_63 : decode cX12_costOf 63 = .ok (.iadd, 1) := by decide +kernel
theorem dX12_costOf_64 : decode cX12_costOf 64 = .ok (.ireturn, 1) := by decide +kernel
theorem dX12_costOf_65 : decode cX12_costOf 65 = .ok (.iconst 3, 1) := by decide +kernel
theorem dX12_costOf_66 : decode cX12_costOf 66 = .ok (.iload_n 1, 1) := by decide +kernel
theorem dX12_costOf_67 : decode cX12_costOf 67 = .ok (.iadd, 1) := by decide +kernel
theorem dX12_costOf_68 : decode cX12_costOf 68 = .ok (.ireturn, 1) := by decide +kernel
theorem dX12_costOf_69 : decode cX12_costOf 69 = .ok (.iload_n 2, 1) := by decide +kernel
theorem dX12_costOf_70 : decode cX12_costOf 70 = .ok (.iconst 2, 1) := by decide +kernel
theorem dX12_costOf_71 : decode cX12_costOf 71 = .ok (.idiv, 1) := by decide +kernel
theorem dX12_costOf_72 : decode cX12_costOf 72 = .ok (.ireturn, 1) := by decide +kernel
theorem dX12_cost_0 : decode cX12_cost 0 = .ok (.aload_n 0, 1) := by decide +kernel
theorem dX12_cost_1 : decode cX12_cost 1 = .ok (.iconst 0, 1) := by decide +kernel
theorem dX12_cost_2 : decode cX12_cost 2 = .ok (.putfield 77, 3) := by decide +kernel
theorem dX12_cost_5 : decode cX12_cost 5 = .ok (.aload_n 0, 1) := by decide +kernel
theorem dX12_cost_6 : decode cX12_cost 6 = .ok (.iload_n 1, 1) := by decide +kernel
theorem dX12_cost_7 : decode cX12_cost 7 = .ok (.invokevirtual 227, 3) := by decide +kernel
theorem dX12_cost_10 : decode cX12_cost 10 = .ok (.ifCond .ge 11, 3) := by decide +kernel
theorem dX12_cost_13 : decode cX12_cost 13 = .ok (.aload_n 0, 1) := by decide +kernel
theorem dX12_cost_14 : decode cX12_cost 14 = .ok (.iload_n 1, 1) := by decide +kernel
theorem dX12_cost_15 : decode cX12_cost 15 = .ok (.invokevirtual 227, 3) := by decide +kernel
theorem dX12_cost_18 : decode cX12_cost 18 = .ok (.goto 18, 3) := by decide +kernel
theorem dX12_cost_21 : decode cX12_cost 21 = .ok (.aload_n 0, 1) := by decide +kernel
theorem dX12_cost_22 : decode cX12_cost 22 = .ok (.getfield 28, 3) := by decide +kernel
theorem dX12_cost_25 : decode cX12_cost 25 = .ok (.iload_n 1, 1) := by decide +kernel
theorem dX12_cost_26 : decode cX12_cost 26 = .ok (.iaload, 1) := by decide +kernel
theorem dX12_cost_27 : decode cX12_cost 27 = .ok (.aload_n 0, 1) := by decide +kernel
theorem dX12_cost_28 : decode cX12_cost 28 = .ok (.getfield 31, 3) := by decide +kernel
theorem dX12_cost_31 : decode cX12_cost 31 = .ok (.iload_n 1, 1) := by decide +kernel
theorem dX12_cost_32 : decode cX12_cost 32 = .ok (.iaload, 1) := by decide +kernel
theorem dX12_cost_33 : decode cX12_cost 33 = .ok (.invokestatic 340, 3) := by decide +kernel
theorem dX12_cost_36 : decode cX12_cost 36 = .ok (.ireturn, 1) := by decide +kernel
theorem dX12_toss_0 : decode cX12_toss 0 = .ok (.aload_n 0, 1) := by decide +kernel
theorem dX12_toss_1 : decode cX12_toss 1 = .ok (.iconst 0, 1) := by decide +kernel
theorem dX12_toss_2 : decode cX12_toss 2 = .ok (.putfield 77, 3) := by decide +kernel
theorem dX12_toss_5 : decode cX12_toss 5 = .ok (.aload_n 0, 1) := by decide +kernel
theorem dX12_toss_6 : decode cX12_toss 6 = .ok (.iload_n 1, 1) := by decide +kernel
theorem dX12_toss_7 : decode cX12_toss 7 = .ok (.invokevirtual 227, 3) := by decide +kernel
theorem dX12_toss_10 : decode cX12_toss 10 = .ok (.ifCond .ge 9, 3) := by decide +kernel
theorem dX12_toss_13 : decode cX12_toss 13 = .ok (.aload_n 0, 1) := by decide +kernel
theorem dX12_toss_14 : decode cX12_toss 14 = .ok (.iload_n 1, 1) := by decide +kernel
theorem dX12_toss_15 : decode cX12_toss 15 = .ok (.invokevirtual 227, 3) := by decide +kernel
theorem dX12_toss_18 : decode cX12_toss 18 = .ok (.ireturn, 1) := by decide +kernel
theorem dX12_toss_19 : decode cX12_toss 19 = .ok (.aload_n 0, 1) := by decide +kernel
theorem dX12_toss_20 : decode cX12_toss 20 = .ok (.getfield 28, 3) := by decide +kernel
theorem dX12_toss_23 : decode cX12_toss 23 = .ok (.iload_n 1, 1) := by decide +kernel
theorem dX12_toss_24 : decode cX12_toss 24 = .ok (.iaload, 1) := by decide +kernel
theorem dX12_toss_25 : decode cX12_toss 25 = .ok (.istore_n 2, 1) := by decide +kernel
theorem dX12_toss_26 : decode cX12_toss 26 = .ok (.aload_n 0, 1) := by decide +kernel
theorem dX12_toss_27 : decode cX12_toss 27 = .ok (.getfield 31, 3) := by decide +kernel
theorem dX12_toss_30 : decode cX12_toss 30 = .ok (.iload_n 1, 1) := by decide +kernel
theorem dX12_toss_31 : decode cX12_toss 31 = .ok (.iaload, 1) := by decide +kernel
theorem dX12_toss_32 : decode cX12_toss 32 = .ok (.istore_n 3, 1) := by decide +kernel
theorem dX12_toss_33 : decode cX12_toss 33 = .ok (.iload_n 2, 1) := by decide +kernel
theorem dX12_toss_34 : decode cX12_toss 34 = .ok (.iconst 2, 1) := by decide +kernel
theorem dX12_toss_35 : decode cX12_toss 35 = .ok (.if_icmp .eq 18, 3) := by decide +kernel
theorem dX12_toss_38 : decode cX12_toss 38 = .ok (.iload_n 2, 1) := by decide +kernel
theorem dX12_toss_39 : decode cX12_toss 39 = .ok (.iconst 3, 1) := by decide +kernel
theorem dX12_toss_40 : decode cX12_toss 40 = .ok (.if_icmp .eq 13, 3) := by decide +kernel
theorem dX12_toss_43 : decode cX12_toss 43 = .ok (.iload_n 2, 1) := by decide +kernel
theorem dX12_toss_44 : decode cX12_toss 44 = .ok (.bipush 6, 2) := by decide +kernel
theorem dX12_toss_46 : decode cX12_toss 46 = .ok (.if_icmp .eq 7, 3) := by decide +kernel
theorem dX12_toss_49 : decode cX12_toss 49 = .ok (.iload_n 3, 1) := by decide +kernel
theorem dX12_toss_50 : decode cX12_toss 50 = .ok (.ifCond .ne 6, 3) := by decide +kernel
theorem dX12_toss_53 : decode cX12_toss 53 = .ok (.bipush (-15), 2) := by decide +kernel
theorem dX12_toss_55 : decode cX12_toss 55 = .ok (.ireturn, 1) := by decide +kernel
theorem dX12_toss_56 : decode cX12_toss 56 = .ok (.iload_n 2, 1) := by decide +kernel
theorem dX12_toss_57 : decode cX12_toss 57 = .ok (.ifCond .ne 7, 3) := by decide +kernel
theorem dX12_toss_60 : decode cX12_toss 60 = .ok (.iload_n 3, 1) := by decide +kernel
theorem dX12_toss_61 : decode cX12_toss 61 = .ok (.goto 25, 3) := by decide +kernel
theorem dX12_toss_64 : decode cX12_toss 64 = .ok (.iload_n 2, 1) := by decide +kernel
theorem dX12_toss_65 : decode cX12_toss 65 = .ok (.bipush 7, 2) := by decide +kernel
theorem dX12_toss_67 : decode cX12_toss 67 = .ok (.if_icmp .ne 15, 3) := by decide +kernel
theorem dX12_toss_70 : decode cX12_toss 70 = .ok (.sipush 200, 3) := by decide +kernel
theorem dX12_toss_73 : decode cX12_toss 73 = .ok (.iload_n 2, 1) := by decide +kernel
theorem dX12_toss_74 : decode cX12_toss 74 = .ok (.iload_n 3, 1) := by decide +kernel
theorem dX12_toss_75 : decode cX12_toss 75 = .ok (.invokestatic 340, 3) := by decide +kernel
theorem dX12_toss_78 : decode cX12_toss 78 = .ok (.iadd, 1) := by decide +kernel
theorem dX12_toss_79 : decode cX12_toss 79 = .ok (.goto 7, 3) := by decide +kernel
theorem dX12_toss_82 : decode cX12_toss 82 = .ok (.bipush 100, 2) := by decide +kernel
theorem dX12_toss_84 : decode cX12_toss 84 = .ok (.iload_n 3, 1) := by decide +kernel
theorem dX12_toss_85 : decode cX12_toss 85 = .ok (.iadd, 1) := by decide +kernel
theorem dX12_toss_86 : decode cX12_toss 86 = .ok (.ireturn, 1) := by decide +kernel
theorem dJ6_bitCount_0f7a4_0 : decode cJ6_bitCount_0f7a4 0 = .ok (.iload_n 0, 1) := by decide +kernel
theorem dJ6_bitCount_0f7a4_1 : decode cJ6_bitCount_0f7a4 1 = .ok (.iload_n 0, 1) := by decide +kernel
theorem dJ6_bitCount_0f7a4_2 : decode cJ6_bitCount_0f7a4 2 = .ok (.iconst 1, 1) := by decide +kernel
theorem dJ6_bitCount_0f7a4_3 : decode cJ6_bitCount_0f7a4 3 = .ok (.iushr, 1) := by decide +kernel
theorem dJ6_bitCount_0f7a4_4 : decode cJ6_bitCount_0f7a4 4 = .ok (.ldc_w 265, 3) := by decide +kernel
theorem dJ6_bitCount_0f7a4_7 : decode cJ6_bitCount_0f7a4 7 = .ok (.iand, 1) := by decide +kernel
theorem dJ6_bitCount_0f7a4_8 : decode cJ6_bitCount_0f7a4 8 = .ok (.isub, 1) := by decide +kernel
theorem dJ6_bitCount_0f7a4_9 : decode cJ6_bitCount_0f7a4 9 = .ok (.istore_n 0, 1) := by decide +kernel
theorem dJ6_bitCount_0f7a4_10 : decode cJ6_bitCount_0f7a4 10 = .ok (.iload_n 0, 1) := by decide +kernel
theorem dJ6_bitCount_0f7a4_11 : decode cJ6_bitCount_0f7a4 11 = .ok (.ldc_w 266, 3) := by decide +kernel
theorem dJ6_bitCount_0f7a4_14 : decode cJ6_bitCount_0f7a4 14 = .ok (.iand, 1) := by decide +kernel
theorem dJ6_bitCount_0f7a4_15 : decode cJ6_bitCount_0f7a4 15 = .ok (.iload_n 0, 1) := by decide +kernel
theorem dJ6_bitCount_0f7a4_16 : decode cJ6_bitCount_0f7a4 16 = .ok (.iconst 2, 1) := by decide +kernel
theorem dJ6_bitCount_0f7a4_17 : decode cJ6_bitCount_0f7a4 17 = .ok (.iushr, 1) := by decide +kernel
theorem dJ6_bitCount_0f7a4_18 : decode cJ6_bitCount_0f7a4 18 = .ok (.ldc_w 266, 3) := by decide +kernel
theorem dJ6_bitCount_0f7a4_21 : decode cJ6_bitCount_0f7a4 21 = .ok (.iand, 1) := by decide +kernel
theorem dJ6_bitCount_0f7a4_22 : decode cJ6_bitCount_0f7a4 22 = .ok (.iadd, 1) := by decide +kernel
theorem dJ6_bitCount_0f7a4_23 : decode cJ6_bitCount_0f7a4 23 = .ok (.istore_n 0, 1) := by decide +kernel
theorem dJ6_bitCount_0f7a4_24 : decode cJ6_bitCount_0f7a4 24 = .ok (.iload_n 0, 1) := by decide +kernel
theorem dJ6_bitCount_0f7a4_25 : decode cJ6_bitCount_0f7a4 25 = .ok (.iload_n 0, 1) := by decide +kernel
theorem dJ6_bitCount_0f7a4_26 : decode cJ6_bitCount_0f7a4 26 = .ok (.iconst 4, 1) := by decide +kernel
theorem dJ6_bitCount_0f7a4_27 : decode cJ6_bitCount_0f7a4 27 = .ok (.iushr, 1) := by decide +kernel
theorem dJ6_bitCount_0f7a4_28 : decode cJ6_bitCount_0f7a4 28 = .ok (.iadd, 1) := by decide +kernel
theorem dJ6_bitCount_0f7a4_29 : decode cJ6_bitCount_0f7a4 29 = .ok (.ldc_w 267, 3) := by decide +kernel
theorem dJ6_bitCount_0f7a4_32 : decode cJ6_bitCount_0f7a4 32 = .ok (.iand, 1) := by decide +kernel
theorem dJ6_bitCount_0f7a4_33 : decode cJ6_bitCount_0f7a4 33 = .ok (.istore_n 0, 1) := by decide +kernel
theorem dJ6_bitCount_0f7a4_34 : decode cJ6_bitCount_0f7a4 34 = .ok (.iload_n 0, 1) := by decide +kernel
theorem dJ6_bitCount_0f7a4_35 : decode cJ6_bitCount_0f7a4 35 = .ok (.iload_n 0, 1) := by decide +kernel
theorem dJ6_bitCount_0f7a4_36 : decode cJ6_bitCount_0f7a4 36 = .ok (.bipush 8, 2) := by decide +kernel
theorem dJ6_bitCount_0f7a4_38 : decode cJ6_bitCount_0f7a4 38 = .ok (.iushr, 1) := by decide +kernel
theorem dJ6_bitCount_0f7a4_39 : decode cJ6_bitCount_0f7a4 39 = .ok (.iadd, 1) := by decide +kernel
theorem dJ6_bitCount_0f7a4_40 : decode cJ6_bitCount_0f7a4 40 = .ok (.istore_n 0, 1) := by decide +kernel
theorem dJ6_bitCount_0f7a4_41 : decode cJ6_bitCount_0f7a4 41 = .ok (.iload_n 0, 1) := by decide +kernel
theorem dJ6_bitCount_0f7a4_42 : decode cJ6_bitCount_0f7a4 42 = .ok (.iload_n 0, 1) := by decide +kernel
theorem dJ6_bitCount_0f7a4_43 : decode cJ6_bitCount_0f7a4 43 = .ok (.bipush 16, 2) := by decide +kernel
theorem dJ6_bitCount_0f7a4_45 : decode cJ6_bitCount_0f7a4 45 = .ok (.iushr, 1) := by decide +kernel
theorem dJ6_bitCount_0f7a4_46 : decode cJ6_bitCount_0f7a4 46 = .ok (.iadd, 1) := by decide +kernel
theorem dJ6_bitCount_0f7a4_47 : decode cJ6_bitCount_0f7a4 47 = .ok (.istore_n 0, 1) := by decide +kernel
theorem dJ6_bitCount_0f7a4_48 : decode cJ6_bitCount_0f7a4 48 = .ok (.iload_n 0, 1) := by decide +kernel
theorem dJ6_bitCount_0f7a4_49 : decode cJ6_bitCount_0f7a4 49 = .ok (.bipush 63, 2) := by decide +kernel
theorem dJ6_bitCount_0f7a4_51 : decode cJ6_bitCount_0f7a4 51 = .ok (.iand, 1) := by decide +kernel
theorem dJ6_bitCount_0f7a4_52 : decode cJ6_bitCount_0f7a4 52 = .ok (.ireturn, 1) := by decide +kernel
theorem dJ7_fill_53178_0 : decode cJ7_fill_53178 0 = .ok (.iconst 0, 1) := by decide +kernel
theorem dJ7_fill_53178_1 : decode cJ7_fill_53178 1 = .ok (.istore_n 2, 1) := by decide +kernel
theorem dJ7_fill_53178_2 : decode cJ7_fill_53178 2 = .ok (.aload_n 0, 1) := by decide +kernel
theorem dJ7_fill_53178_3 : decode cJ7_fill_53178 3 = .ok (.arraylength, 1) := by decide +kernel
theorem dJ7_fill_53178_4 : decode cJ7_fill_53178 4 = .ok (.istore_n 3, 1) := by decide +kernel
theorem dJ7_fill_53178_5 : decode cJ7_fill_53178 5 = .ok (.iload_n 2, 1) := by decide +kernel
theorem dJ7_fill_53178_6 : decode cJ7_fill_53178 6 = .ok (.iload_n 3, 1) := by decide +kernel
theorem dJ7_fill_53178_7 : decode cJ7_fill_53178 7 = .ok (.if_icmp .ge 13, 3) := by decide +kernel
theorem dJ7_fill_53178_10 : decode cJ7_fill_53178 10 = .ok (.aload_n 0, 1) := by decide +kernel
theorem dJ7_fill_53178_11 : decode cJ7_fill_53178 11 = .ok (.iload_n 2, 1) := by decide +kernel
theorem dJ7_fill_53178_12 : decode cJ7_fill_53178 12 = .ok (.iload_n 1, 1) := by decide +kernel
theorem dJ7_fill_53178_13 : decode cJ7_fill_53178 13 = .ok (.iastore, 1) := by decide +kernel
theorem dJ7_fill_53178_14 : decode cJ7_fill_53178 14 = .ok (.iinc 2 1, 3) := by decide +kernel
theorem dJ7_fill_53178_17 : decode cJ7_fill_53178 17 = .ok (.goto (-12), 3) := by decide +kernel
theorem dJ7_fill_53178_20 : decode cJ7_fill_53178 20 = .ok (.return_, 1) := by decide +kernel
theorem dL_element_0 : decode cL_element 0 = .ok (.aload_n 3, 1) := by decide +kernel
theorem dL_element_1 : decode cL_element 1 = .ok (.iconst 0, 1) := by decide +kernel
theorem dL_element_2 : decode cL_element 2 = .ok (.aload_n 0, 1) := by decide +kernel
theorem dL_element_3 : decode cL_element 3 = .ok (.iload_n 1, 1) := by decide +kernel
theorem dL_element_4 : decode cL_element 4 = .ok (.iload_n 2, 1) := by decide +kernel
theorem dL_element_5 : decode cL_element 5 = .ok (.invokevirtual 7, 3) := by decide +kernel
theorem dL_element_8 : decode cL_element 8 = .ok (.lastore, 1) := by decide +kernel
theorem dL_element_9 : decode cL_element 9 = .ok (.goto 11, 3) := by decide +kernel
theorem dL_element_12 : decode cL_element 12 = .ok (.astore 4, 2) := by decide +kernel
theorem dL_element_14 : decode cL_element 14 = .ok (.iconst 1, 1) := by decide +kernel
theorem dL_element_15 : decode cL_element 15 = .ok (.ireturn, 1) := by decide +kernel
theorem dL_element_16 : decode cL_element 16 = .ok (.astore 4, 2) := by decide +kernel
theorem dL_element_18 : decode cL_element 18 = .ok (.iconst 2, 1) := by decide +kernel
theorem dL_element_19 : decode cL_element 19 = .ok (.ireturn, 1) := by decide +kernel
theorem dL_element_20 : decode cL_element 20 = .ok (.iconst 0, 1) := by decide +kernel
theorem dL_element_21 : decode cL_element 21 = .ok (.ireturn, 1) := by decide +kernel
theorem dL_law_0 : decode cL_law 0 = .ok (.new 8, 3) := by decide +kernel
theorem dL_law_3 : decode cL_law 3 = .ok (.dup, 1) := by decide +kernel
theorem dL_law_4 : decode cL_law 4 = .ok (.invokespecial 17, 3) := by decide +kernel
theorem dL_law_7 : decode cL_law 7 = .ok (.astore_n 1, 1) := by decide +kernel
theorem dL_law_8 : decode cL_law 8 = .ok (.new 18, 3) := by decide +kernel
theorem dL_law_11 : decode cL_law 11 = .ok (.dup, 1) := by decide +kernel
theorem dL_law_12 : decode cL_law 12 = .ok (.invokespecial 20, 3) := by decide +kernel
theorem dL_law_15 : decode cL_law 15 = .ok (.astore_n 2, 1) := by decide +kernel
theorem dL_law_16 : decode cL_law 16 = .ok (.iconst 1, 1) := by decide +kernel
theorem dL_law_17 : decode cL_law 17 = .ok (.newarray .long, 2) := by decide +kernel
theorem dL_law_19 : decode cL_law 19 = .ok (.astore_n 3, 1) := by decide +kernel
theorem dL_law_20 : decode cL_law 20 = .ok (.iconst 0, 1) := by decide +kernel
theorem dL_law_21 : decode cL_law 21 = .ok (.istore 4, 2) := by decide +kernel
theorem dL_law_23 : decode cL_law 23 = .ok (.iload 4, 2) := by decide +kernel
theorem dL_law_25 : decode cL_law 25 = .ok (.aload_n 0, 1) := by decide +kernel
theorem dL_law_26 : decode cL_law 26 = .ok (.arraylength, 1) := by decide +kernel
theorem dL_law_27 : decode cL_law 27 = .ok (.bipush 6, 2) := by decide +kernel
theorem dL_law_29 : decode cL_law 29 = .ok (.isub, 1) := by decide +kernel
theorem dL_law_30 : decode cL_law 30 = .ok (.if_icmp .gt 1514, 3) := by decide +kernel
theorem dL_law_33 : decode cL_law 33 = .ok (.aload_n 0, 1) := by decide +kernel
theorem dL_law_34 : decode cL_law 34 = .ok (.iload 4, 2) := by decide +kernel
theorem dL_law_36 : decode cL_law 36 = .ok (.iaload, 1) := by decide +kernel
theorem dL_law_37 : decode cL_law 37 = .ok (.bipush 63, 2) := by decide +kernel
theorem dL_law_39 : decode cL_law 39 = .ok (.iand, 1) := by decide +kernel
theorem dL_law_40 : decode cL_law 40 = .ok (.tableswitch 1498 0 37 #[168, 193, 230, 267, 316, 353, 390, 415, 428, 465, 490, 527, 564, 577, 602, 615, 640, 689, 763, 824, 861, 898, 911, 948, 961, 987, 1012, 1049, 1098, 1111, 1124, 1149, 1210, 1259, 1308, 1375, 1448, 1473], 168) := by decide +kernel
theorem dL_law_208 : decode cL_law 208 = .ok (.aload_n 1, 1) := by decide +kernel
theorem dL_law_209 : decode cL_law 209 = .ok (.aload_n 0, 1) := by decide +kernel
theorem dL_law_210 : decode cL_law 210 = .ok (.iload 4, 2) := by decide +kernel
theorem dL_law_212 : decode cL_law 212 = .ok (.iconst 1, 1) := by decide +kernel
theorem dL_law_213 : decode cL_law 213 = .ok (.iadd, 1) := by decide +kernel
theorem dL_law_214 : decode cL_law 214 = .ok (.iaload, 1) := by decide +kernel
theorem dL_law_215 : decode cL_law 215 = .ok (.invokevirtual 21, 3) := by decide +kernel
theorem dL_law_218 : decode cL_law 218 = .ok (.aload_n 2, 1) := by decide +kernel
theorem dL_law_219 : decode cL_law 219 = .ok (.aload_n 0, 1) := by decide +kernel
theorem dL_law_220 : decode cL_law 220 = .ok (.iload 4, 2) := by decide +kernel
theorem dL_law_222 : decode cL_law 222 = .ok (.iconst 1, 1) := by decide +kernel
theorem dL_law_223 : decode cL_law 223 = .ok (.iadd, 1) := by decide +kernel
theorem dL_law_224 : decode cL_law 224 = .ok (.iaload, 1) := by decide +kernel
theorem dL_law_225 : decode cL_law 225 = .ok (.invokevirtual 25, 3) := by decide +kernel
theorem dL_law_228 : decode cL_law 228 = .ok (.if_icmp .eq 1310, 3) := by decide +kernel
theorem dL_law_231 : decode cL_law 231 = .ok (.iconst 0, 1) := by decide +kernel
theorem dL_law_232 : decode cL_law 232 = .ok (.ireturn, 1) := by decide +kernel
theorem dL_law_233 : decode cL_law 233 = .ok (.aload_n 1, 1) := by decide +kernel
theorem dL_law_234 : decode cL_law 234 = .ok (.aload_n 0, 1) := by decide +kernel
theorem dL_law_235 : decode cL_law 235 = .ok (.iload 4, 2) := by decide +kernel
theorem dL_law_237 : decode cL_law 237 = .ok (.iconst 1, 1) := by decide +kernel
theorem dL_law_238 : decode cL_law 238 = .ok (.iadd, 1) := by decide +kernel
theorem dL_law_239 : decode cL_law 239 = .ok (.iaload, 1) := by decide +kernel
theorem dL_law_240 : decode cL_law 240 = .ok (.aload_n 0, 1) := by decide +kernel
theorem dL_law_241 : decode cL_law 241 = .ok (.iload 4, 2) := by decide +kernel
theorem dL_law_243 : decode cL_law 243 = .ok (.iconst 2, 1) := by decide +kernel
theorem dL_law_244 : decode cL_law 244 = .ok (.iadd, 1) := by decide +kernel
theorem dL_law_245 : decode cL_law 245 = .ok (.iaload, 1) := by decide +kernel
theorem dL_law_246 : decode cL_law 246 = .ok (.invokevirtual 26, 3) := by decide +kernel
theorem dL_law_249 : decode cL_law 249 = .ok (.aload_n 2, 1) := by decide +kernel
theorem dL_law_250 : decode cL_law 250 = .ok (.aload_n 0, 1) := by decide +kernel
theorem dL_law_251 : decode cL_law 251 = .ok (.iload 4, 2) := by decide +kernel
theorem dL_law_253 : decode cL_law 253 = .ok (.iconst 1, 1) := by decide +kernel
theorem dL_law_254 : decode cL_law 254 = .ok (.iadd, 1) := by decide +kernel
theorem dL_law_255 : decode cL_law 255 = .ok (.iaload, 1) := by decide +kernel
theorem dL_law_256 : decode cL_law 256 = .ok (.aload_n 0, 1) := by decide +kernel
theorem dL_law_257 : decode cL_law 257 = .ok (.iload 4, 2) := by decide +kernel
theorem dL_law_259 : decode cL_law 259 = .ok (.iconst 2, 1) := by decide +kernel
theorem dL_law_260 : decode cL_law 260 = .ok (.iadd, 1) := by decide +kernel
theorem dL_law_261 : decode cL_law 261 = .ok (.iaload, 1) := by decide +kernel
theorem dL_law_262 : decode cL_law 262 = .ok (.invokevirtual 30, 3) := by decide +kernel
theorem dL_law_265 : decode cL_law 265 = .ok (.if_icmp .eq 1273, 3) := by decide +kernel
theorem dL_law_268 : decode cL_law 268 = .ok (.iconst 0, 1) := by decide +kernel
theorem dL_law_269 : decode cL_law 269 = .ok (.ireturn, 1) := by decide +kernel
theorem dL_law_270 : decode cL_law 270 = .ok (.aload_n 1, 1) := by decide +kernel
theorem dL_law_271 : decode cL_law 271 = .ok (.aload_n 0, 1) := by decide +kernel
theorem dL_law_272 : decode cL_law 272 = .ok (.iload 4, 2) := by decide +kernel
theorem dL_law_274 : decode cL_law 274 = .ok (.iconst 1, 1) := by decide +kernel
theorem dL_law_275 : decode cL_law 275 = .ok (.iadd, 1) := by decide +kernel
theorem dL_law_276 : decode cL_law 276 = .ok (.iaload, 1) := by decide +kernel
theorem dL_law_277 : decode cL_law 277 = .ok (.aload_n 0, 1) := by decide +kernel
theorem dL_law_278 : decode cL_law 278 = .ok (.iload 4, 2) := by decide +kernel
theorem dL_law_280 : decode cL_law 280 = .ok (.iconst 2, 1) := by decide +kernel
theorem dL_law_281 : decode cL_law 281 = .ok (.iadd, 1) := by decide +kernel
theorem dL_law_282 : decode cL_law 282 = .ok (.iaload, 1) := by decide +kernel
theorem dL_law_283 : decode cL_law 283 = .ok (.invokevirtual 31, 3) := by decide +kernel
theorem dL_law_286 : decode cL_law 286 = .ok (.aload_n 2, 1) := by decide +kernel
theorem dL_law_287 : decode cL_law 287 = .ok (.aload_n 0, 1) := by decide +kernel
theorem dL_law_288 : decode cL_law 288 = .ok (.iload 4, 2) := by decide +kernel
theorem dL_law_290 : decode cL_law 290 = .ok (.iconst 1, 1) := by decide +kernel
theorem dL_law_291 : decode cL_law 291 = .ok (.iadd, 1) := by decide +kernel
theorem dL_law_292 : decode cL_law 292 = .ok (.iaload, 1) := by decide +kernel
theorem dL_law_293 : decode cL_law 293 = .ok (.aload_n 0, 1) := by decide +kernel
theorem dL_law_294 : decode cL_law 294 = .ok (.iload 4, 2) := by decide +kernel
theorem dL_law_296 : decode cL_law 296 = .ok (.iconst 2, 1) := by decide +kernel
theorem dL_law_297 : decode cL_law 297 = .ok (.iadd, 1) := by decide +kernel
theorem dL_law_298 : decode cL_law 298 = .ok (.iaload, 1) := by decide +kernel
theorem dL_law_299 : decode cL_law 299 = .ok (.invokevirtual 34, 3) := by decide +kernel
theorem dL_law_302 : decode cL_law 302 = .ok (.if_icmp .eq 1236, 3) := by decide +kernel
theorem dL_law_305 : decode cL_law 305 = .ok (.iconst 0, 1) := by decide +kernel
theorem dL_law_306 : decode cL_law 306 = .ok (.ireturn, 1) := by decide +kernel
theorem dL_law_307 : decode cL_law 307 = .ok (.aload_n 1, 1) := by decide +kernel
theorem dL_law_308 : decode cL_law 308 = .ok (.aload_n 0, 1) := by decide +kernel
theorem dL_law_309 : decode cL_law 309 = .ok (.iload 4, 2) := by decide +kernel
theorem dL_law_311 : decode cL_law 311 = .ok (.iconst 1, 1) := by decide +kernel
theorem dL_law_312 : decode cL_law 312 = .ok (.iadd, 1) := by decide +kernel
theorem dL_law_313 : decode cL_law 313 = .ok (.iaload, 1) := by decide +kernel
theorem dL_law_314 : decode cL_law 314 = .ok (.aload_n 0, 1) := by decide +kernel
theorem dL_law_315 : decode cL_law 315 = .ok (.iload 4, 2) := by decide +kernel
theorem dL_law_317 : decode cL_law 317 = .ok (.iconst 2, 1) := by decide +kernel
theorem dL_law_318 : decode cL_law 318 = .ok (.iadd, 1) := by decide +kernel
theorem dL_law_319 : decode cL_law 319 = .ok (.iaload, 1) := by decide +kernel
theorem dL_law_320 : decode cL_law 320 = .ok (.aload_n 0, 1) := by decide +kernel
theorem dL_law_321 : decode cL_law 321 = .ok (.iload 4, 2) := by decide +kernel
theorem dL_law_323 : decode cL_law 323 = .ok (.iconst 3, 1) := by decide +kernel
theorem dL_law_324 : decode cL_law 324 = .ok (.iadd, 1) := by decide +kernel
theorem dL_law_325 : decode cL_law 325 = .ok (.iaload, 1) := by decide +kernel
theorem dL_law_326 : decode cL_law 326 = .ok (.invokevirtual 35, 3) := by decide +kernel
theorem dL_law_329 : decode cL_law 329 = .ok (.aload_n 2, 1) := by decide +kernel
theorem dL_law_330 : decode cL_law 330 = .ok (.aload_n 0, 1) := by decide +kernel
theorem dL_law_331 : decode cL_law 331 = .ok (.iload 4, 2) := by decide +kernel
theorem dL_law_333 : decode cL_law 333 = .ok (.iconst 1, 1) := by decide +kernel
theorem dL_law_334 : decode cL_law 334 = .ok (.iadd, 1) := by decide +kernel
theorem dL_law_335 : decode cL_law 335 = .ok (.iaload, 1) := by decide +kernel
theorem dL_law_336 : decode cL_law 336 = .ok (.aload_n 0, 1) := by decide +kernel
theorem dL_law_337 : decode cL_law 337 = .ok (.iload 4, 2) := by decide +kernel
theorem dL_law_339 : decode cL_law 339 = .ok (.iconst 2, 1) := by decide +kernel
theorem dL_law_340 : decode cL_law 340 = .ok (.iadd, 1) := by decide +kernel
theorem dL_law_341 : decode cL_law 341 = .ok (.iaload, 1) := by decide +kernel
theorem dL_law_342 : decode cL_law 342 = .ok (.aload_n 0, 1) := by decide +kernel
theorem dL_law_343 : decode cL_law 343 = .ok (.iload 4, 2) := by decide +kernel
theorem dL_law_345 : decode cL_law 345 = .ok (.iconst 3, 1) := by decide +kernel
theorem dL_law_346 : decode cL_law 346 = .ok (.iadd, 1) := by decide +kernel
theorem dL_law_347 : decode cL_law 347 = .ok (.iaload, 1) := by decide +kernel
theorem dL_law_348 : decode cL_law 348 = .ok (.invokevirtual 39, 3) := by decide +kernel
theorem dL_law_351 : decode cL_law 351 = .ok (.if_icmp .eq 1187, 3) := by decide +kernel
theorem dL_law_354 : decode cL_law 354 = .ok (.iconst 0, 1) := by decide +kernel
theorem dL_law_355 : decode cL_law 355 = .ok (.ireturn, 1) := by decide +kernel
theorem dL_law_356 : decode cL_law 356 = .ok (.aload_n 1, 1) := by decide +kernel
theorem dL_law_357 : decode cL_law 357 = .ok (.aload_n 0, 1) := by decide +kernel
theorem dL_law_358 : decode cL_law 358 = .ok (.iload 4, 2) := by decide +kernel
theorem dL_law_360 : decode cL_law 360 = .ok (.iconst 1, 1) := by decide +kernel
theorem dL_law_361 : decode cL_law 361 = .ok (.iadd, 1) := by decide +kernel
theorem dL_law_362 : decode cL_law 362 = .ok (.iaload, 1) := by decide +kernel
theorem dL_law_363 : decode cL_law 363 = .ok (.aload_n 0, 1) := by decide +kernel
theorem dL_law_364 : decode cL_law 364 = .ok (.iload 4, 2) := by decide +kernel
theorem dL_law_366 : decode cL_law 366 = .ok (.iconst 2, 1) := by decide +kernel
theorem dL_law_367 : decode cL_law 367 = .ok (.iadd, 1) := by decide +kernel
theorem dL_law_368 : decode cL_law 368 = .ok (.iaload, 1) := by decide +kernel
theorem dL_law_369 : decode cL_law 369 = .ok (.invokevirtual 40, 3) := by decide +kernel
theorem dL_law_372 : decode cL_law 372 = .ok (.aload_n 2, 1) := by decide +kernel
theorem dL_law_373 : decode cL_law 373 = .ok (.aload_n 0, 1) := by decide +kernel
theorem dL_law_374 : decode cL_law 374 = .ok (.iload 4, 2) := by decide +kernel
theorem dL_law_376 : decode cL_law 376 = .ok (.iconst 1, 1) := by decide +kernel
theorem dL_law_377 : decode cL_law 377 = .ok (.iadd, 1) := by decide +kernel
theorem dL_law_378 : decode cL_law 378 = .ok (.iaload, 1) := by decide +kernel
theorem dL_law_379 : decode cL_law 379 = .ok (.aload_n 0, 1) := by decide +kernel
theorem dL_law_380 : decode cL_law 380 = .ok (.iload 4, 2) := by decide +kernel
theorem dL_law_382 : decode cL_law 382 = .ok (.iconst 2, 1) := by decide +kernel
theorem dL_law_383 : decode cL_law 383 = .ok (.iadd, 1) := by decide +kernel
theorem dL_law_384 : decode cL_law 384 = .ok (.iaload, 1) := by decide +kernel
theorem dL_law_385 : decode cL_law 385 = .ok (.invokevirtual 43, 3) := by decide +kernel
theorem dL_law_388 : decode cL_law 388 = .ok (.if_icmp .eq 1150, 3) := by decide +kernel
theorem dL_law_391 : decode cL_law 391 = .ok (.iconst 0, 1) := by decide +kernel
theorem dL_law_392 : decode cL_law 392 = .ok (.ireturn, 1) := by decide +kernel
theorem dL_law_393 : decode cL_law 393 = .ok (.aload_n 1, 1) := by decide +kernel
theorem dL_law_394 : decode cL_law 394 = .ok (.aload_n 0, 1) := by decide +kernel
theorem dL_law_395 : decode cL_law 395 = .ok (.iload 4, 2) := by decide +kernel
theorem dL_law_397 : decode cL_law 397 = .ok (.iconst 1, 1) := by decide +kernel
theorem dL_law_398 : decode cL_law 398 = .ok (.iadd, 1) := by decide +kernel
theorem dL_law_399 : decode cL_law 399 = .ok (.iaload, 1) := by decide +kernel
theorem dL_law_400 : decode cL_law 400 = .ok (.aload_n 0, 1) := by decide +kernel
theorem dL_law_401 : decode cL_law 401 = .ok (.iload 4, 2) := by decide +kernel
theorem dL_law_403 : decode cL_law 403 = .ok (.iconst 2, 1) := by decide +kernel
theorem dL_law_404 : decode cL_law 404 = .ok (.iadd, 1) := by decide +kernel
theorem dL_law_405 : decode cL_law 405 = .ok (.iaload, 1) := by decide +kernel
theorem dL_law_406 : decode cL_law 406 = .ok (.invokevirtual 44, 3) := by decide +kernel
theorem dL_law_409 : decode cL_law 409 = .ok (.aload_n 2, 1) := by decide +kernel
theorem dL_law_410 : decode cL_law 410 = .ok (.aload_n 0, 1) := by decide +kernel
theorem dL_law_411 : decode cL_law 411 = .ok (.iload 4, 2) := by decide +kernel
theorem dL_law_413 : decode cL_law 413 = .ok (.iconst 1, 1) := by decide +kernel
theorem dL_law_414 : decode cL_law 414 = .ok (.iadd, 1) := by decide +kernel
theorem dL_law_415 : decode cL_law 415 = .ok (.iaload, 1) := by decide +kernel
theorem dL_law_416 : decode cL_law 416 = .ok (.aload_n 0, 1) := by decide +kernel
theorem dL_law_417 : decode cL_law 417 = .ok (.iload 4, 2) := by decide +kernel
theorem dL_law_419 : decode cL_law 419 = .ok (.iconst 2, 1) := by decide +kernel
theorem dL_law_420 : decode cL_law 420 = .ok (.iadd, 1) := by decide +kernel
theorem dL_law_421 : decode cL_law 421 = .ok (.iaload, 1) := by decide +kernel
theorem dL_law_422 : decode cL_law 422 = .ok (.invokevirtual 47, 3) := by decide +kernel
theorem dL_law_425 : decode cL_law 425 = .ok (.if_icmp .eq 1113, 3) := by decide +kernel
theorem dL_law_428 : decode cL_law 428 = .ok (.iconst 0, 1) := by decide +kernel
theorem dL_law_429 : decode cL_law 429 = .ok (.ireturn, 1) := by decide +kernel
theorem dL_law_430 : decode cL_law 430 = .ok (.aload_n 1, 1) := by decide +kernel
theorem dL_law_431 : decode cL_law 431 = .ok (.aload_n 0, 1) := by decide +kernel
theorem dL_law_432 : decode cL_law 432 = .ok (.iload 4, 2) := by decide +kernel
theorem dL_law_434 : decode cL_law 434 = .ok (.iconst 1, 1) := by decide +kernel
theorem dL_law_435 : decode cL_law 435 = .ok (.iadd, 1) := by decide +kernel
theorem dL_law_436 : decode cL_law 436 = .ok (.iaload, 1) := by decide +kernel
theorem dL_law_437 : decode cL_law 437 = .ok (.invokevirtual 48, 3) := by decide +kernel
theorem dL_law_440 : decode cL_law 440 = .ok (.aload_n 2, 1) := by decide +kernel
theorem dL_law_441 : decode cL_law 441 = .ok (.aload_n 0, 1) := by decide +kernel
theorem dL_law_442 : decode cL_law 442 = .ok (.iload 4, 2) := by decide +kernel
theorem dL_law_444 : decode cL_law 444 = .ok (.iconst 1, 1) := by decide +kernel
theorem dL_law_445 : decode cL_law 445 = .ok (.iadd, 1) := by decide +kernel
theorem dL_law_446 : decode cL_law 446 = .ok (.iaload, 1) := by decide +kernel
theorem dL_law_447 : decode cL_law 447 = .ok (.invokevirtual 51, 3) := by decide +kernel
theorem dL_law_450 : decode cL_law 450 = .ok (.if_icmp .eq 1088, 3) := by decide +kernel
theorem dL_law_453 : decode cL_law 453 = .ok (.iconst 0, 1) := by decide +kernel
theorem dL_law_454 : decode cL_law 454 = .ok (.ireturn, 1) := by decide +kernel
theorem dL_law_455 : decode cL_law 455 = .ok (.aload_n 1, 1) := by decide +kernel
theorem dL_law_456 : decode cL_law 456 = .ok (.invokevirtual 52, 3) := by decide +kernel
theorem dL_law_459 : decode cL_law 459 = .ok (.aload_n 2, 1) := by decide +kernel
theorem dL_law_460 : decode cL_law 460 = .ok (.invokevirtual 56, 3) := by decide +kernel
theorem dL_law_463 : decode cL_law 463 = .ok (.if_icmp .eq 1075, 3) := by decide +kernel
theorem dL_law_466 : decode cL_law 466 = .ok (.iconst 0, 1) := by decide +kernel
theorem dL_law_467 : decode cL_law 467 = .ok (.ireturn, 1) := by decide +kernel
theorem dL_law_468 : decode cL_law 468 = .ok (.aload_n 1, 1) := by decide +kernel
theorem dL_law_469 : decode cL_law 469 = .ok (.aload_n 0, 1) := by decide +kernel
theorem dL_law_470 : decode cL_law 470 = .ok (.iload 4, 2) := by decide +kernel
theorem dL_law_472 : decode cL_law 472 = .ok (.iconst 1, 1) := by decide +kernel
theorem dL_law_473 : decode cL_law 473 = .ok (.iadd, 1) := by decide +kernel
theorem dL_law_474 : decode cL_law 474 = .ok (.iaload, 1) := by decide +kernel
theorem dL_law_475 : decode cL_law 475 = .ok (.aload_n 0, 1) := by decide +kernel
theorem dL_law_476 : decode cL_law 476 = .ok (.iload 4, 2) := by decide +kernel
theorem dL_law_478 : decode cL_law 478 = .ok (.iconst 2, 1) := by decide +kernel
theorem dL_law_479 : decode cL_law 479 = .ok (.iadd, 1) := by decide +kernel
theorem dL_law_480 : decode cL_law 480 = .ok (.iaload, 1) := by decide +kernel
theorem dL_law_481 : decode cL_law 481 = .ok (.invokevirtual 57, 3) := by decide +kernel
theorem dL_law_484 : decode cL_law 484 = .ok (.aload_n 2, 1) := by decide +kernel
theorem dL_law_485 : decode cL_law 485 = .ok (.aload_n 0, 1) := by decide +kernel
theorem dL_law_486 : decode cL_law 486 = .ok (.iload 4, 2) := by decide +kernel
theorem dL_law_488 : decode cL_law 488 = .ok (.iconst 1, 1) := by decide +kernel
theorem dL_law_489 : decode cL_law 489 = .ok (.iadd, 1) := by decide +kernel
theorem dL_law_490 : decode cL_law 490 = .ok (.iaload, 1) := by decide +kernel
theorem dL_law_491 : decode cL_law 491 = .ok (.aload_n 0, 1) := by decide +kernel
theorem dL_law_492 : decode cL_law 492 = .ok (.iload 4, 2) := by decide +kernel
theorem dL_law_494 : decode cL_law 494 = .ok (.iconst 2, 1) := by decide +kernel
theorem dL_law_495 : decode cL_law 495 = .ok (.iadd, 1) := by decide +kernel
theorem dL_law_496 : decode cL_law 496 = .ok (.iaload, 1) := by decide +kernel
theorem dL_law_497 : decode cL_law 497 = .ok (.invokevirtual 60, 3) := by decide +kernel
theorem dL_law_500 : decode cL_law 500 = .ok (.if_icmp .eq 1038, 3) := by decide +kernel
theorem dL_law_503 : decode cL_law 503 = .ok (.iconst 0, 1) := by decide +kernel
theorem dL_law_504 : decode cL_law 504 = .ok (.ireturn, 1) := by decide +kernel
theorem dL_law_505 : decode cL_law 505 = .ok (.aload_n 1, 1) := by decide +kernel
theorem dL_law_506 : decode cL_law 506 = .ok (.aload_n 0, 1) := by decide +kernel
theorem dL_law_507 : decode cL_law 507 = .ok (.iload 4, 2) := by decide +kernel
theorem dL_law_509 : decode cL_law 509 = .ok (.iconst 1, 1) := by decide +kernel
theorem dL_law_510 : decode cL_law 510 = .ok (.iadd, 1) := by decide +kernel
theorem dL_law_511 : decode cL_law 511 = .ok (.iaload, 1) := by decide +kernel
theorem dL_law_512 : decode cL_law 512 = .ok (.invokevirtual 61, 3) := by decide +kernel
theorem dL_law_515 : decode cL_law 515 = .ok (.aload_n 2, 1) := by decide +kernel
theorem dL_law_516 : decode cL_law 516 = .ok (.aload_n 0, 1) := by decide +kernel
theorem dL_law_517 : decode cL_law 517 = .ok (.iload 4, 2) := by decide +kernel
theorem dL_law_519 : decode cL_law 519 = .ok (.iconst 1, 1) := by decide +kernel
theorem dL_law_520 : decode cL_law 520 = .ok (.iadd, 1) := by decide +kernel
theorem dL_law_521 : decode cL_law 521 = .ok (.iaload, 1) := by decide +kernel
theorem dL_law_522 : decode cL_law 522 = .ok (.invokevirtual 64, 3) := by decide +kernel
theorem dL_law_525 : decode cL_law 525 = .ok (.if_icmp .eq 1013, 3) := by decide +kernel
theorem dL_law_528 : decode cL_law 528 = .ok (.iconst 0, 1) := by decide +kernel
theorem dL_law_529 : decode cL_law 529 = .ok (.ireturn, 1) := by decide +kernel
theorem dL_law_530 : decode cL_law 530 = .ok (.aload_n 1, 1) := by decide +kernel
theorem dL_law_531 : decode cL_law 531 = .ok (.aload_n 0, 1) := by decide +kernel
theorem dL_law_532 : decode cL_law 532 = .ok (.iload 4, 2) := by decide +kernel
theorem dL_law_534 : decode cL_law 534 = .ok (.iconst 1, 1) := by decide +kernel
theorem dL_law_535 : decode cL_law 535 = .ok (.iadd, 1) := by decide +kernel
theorem dL_law_536 : decode cL_law 536 = .ok (.iaload, 1) := by decide +kernel
theorem dL_law_537 : decode cL_law 537 = .ok (.aload_n 0, 1) := by decide +kernel
theorem dL_law_538 : decode cL_law 538 = .ok (.iload 4, 2) := by decide +kernel
theorem dL_law_540 : decode cL_law 540 = .ok (.iconst 2, 1) := by decide +kernel
theorem dL_law_541 : decode cL_law 541 = .ok (.iadd, 1) := by decide +kernel
theorem dL_law_542 : decode cL_law 542 = .ok (.iaload, 1) := by decide +kernel
theorem dL_law_543 : decode cL_law 543 = .ok (.invokevirtual 65, 3) := by decide +kernel
theorem dL_law_546 : decode cL_law 546 = .ok (.aload_n 2, 1) := by decide +kernel
theorem dL_law_547 : decode cL_law 547 = .ok (.aload_n 0, 1) := by decide +kernel
theorem dL_law_548 : decode cL_law 548 = .ok (.iload 4, 2) := by decide +kernel
theorem dL_law_550 : decode cL_law 550 = .ok (.iconst 1, 1) := by decide +kernel
theorem dL_law_551 : decode cL_law 551 = .ok (.iadd, 1) := by decide +kernel
theorem dL_law_552 : decode cL_law 552 = .ok (.iaload, 1) := by decide +kernel
theorem dL_law_553 : decode cL_law 553 = .ok (.aload_n 0, 1) := by decide +kernel
theorem dL_law_554 : decode cL_law 554 = .ok (.iload 4, 2) := by decide +kernel
theorem dL_law_556 : decode cL_law 556 = .ok (.iconst 2, 1) := by decide +kernel
theorem dL_law_557 : decode cL_law 557 = .ok (.iadd, 1) := by decide +kernel
theorem dL_law_558 : decode cL_law 558 = .ok (.iaload, 1) := by decide +kernel
theorem dL_law_559 : decode cL_law 559 = .ok (.invokevirtual 68, 3) := by decide +kernel
theorem dL_law_562 : decode cL_law 562 = .ok (.if_icmp .eq 976, 3) := by decide +kernel
theorem dL_law_565 : decode cL_law 565 = .ok (.iconst 0, 1) := by decide +kernel
theorem dL_law_566 : decode cL_law 566 = .ok (.ireturn, 1) := by decide +kernel
theorem dL_law_567 : decode cL_law 567 = .ok (.aload_n 1, 1) := by decide +kernel
theorem dL_law_568 : decode cL_law 568 = .ok (.aload_n 0, 1) := by decide +kernel
theorem dL_law_569 : decode cL_law 569 = .ok (.iload 4, 2) := by decide +kernel
theorem dL_law_571 : decode cL_law 571 = .ok (.iconst 1, 1) := by decide +kernel
theorem dL_law_572 : decode cL_law 572 = .ok (.iadd, 1) := by decide +kernel
theorem dL_law_573 : decode cL_law 573 = .ok (.iaload, 1) := by decide +kernel
theorem dL_law_574 : decode cL_law 574 = .ok (.aload_n 0, 1) := by decide +kernel
theorem dL_law_575 : decode cL_law 575 = .ok (.iload 4, 2) := by decide +kernel
theorem dL_law_577 : decode cL_law 577 = .ok (.iconst 2, 1) := by decide +kernel
theorem dL_law_578 : decode cL_law 578 = .ok (.iadd, 1) := by decide +kernel
theorem dL_law_579 : decode cL_law 579 = .ok (.iaload, 1) := by decide +kernel
theorem dL_law_580 : decode cL_law 580 = .ok (.invokevirtual 69, 3) := by decide +kernel
theorem dL_law_583 : decode cL_law 583 = .ok (.aload_n 2, 1) := by decide +kernel
theorem dL_law_584 : decode cL_law 584 = .ok (.aload_n 0, 1) := by decide +kernel
theorem dL_law_585 : decode cL_law 585 = .ok (.iload 4, 2) := by decide +kernel
theorem dL_law_587 : decode cL_law 587 = .ok (.iconst 1, 1) := by decide +kernel
theorem dL_law_588 : decode cL_law 588 = .ok (.iadd, 1) := by decide +kernel
theorem dL_law_589 : decode cL_law 589 = .ok (.iaload, 1) := by decide +kernel
theorem dL_law_590 : decode cL_law 590 = .ok (.aload_n 0, 1) := by decide +kernel
theorem dL_law_591 : decode cL_law 591 = .ok (.iload 4, 2) := by decide +kernel
theorem dL_law_593 : decode cL_law 593 = .ok (.iconst 2, 1) := by decide +kernel
theorem dL_law_594 : decode cL_law 594 = .ok (.iadd, 1) := by decide +kernel
theorem dL_law_595 : decode cL_law 595 = .ok (.iaload, 1) := by decide +kernel
theorem dL_law_596 : decode cL_law 596 = .ok (.invokevirtual 72, 3) := by decide +kernel
theorem dL_law_599 : decode cL_law 599 = .ok (.if_icmp .eq 939, 3) := by decide +kernel
theorem dL_law_602 : decode cL_law 602 = .ok (.iconst 0, 1) := by decide +kernel
theorem dL_law_603 : decode cL_law 603 = .ok (.ireturn, 1) := by decide +kernel
theorem dL_law_604 : decode cL_law 604 = .ok (.aload_n 1, 1) := by decide +kernel
theorem dL_law_605 : decode cL_law 605 = .ok (.invokevirtual 73, 3) := by decide +kernel
theorem dL_law_608 : decode cL_law 608 = .ok (.aload_n 2, 1) := by decide +kernel
theorem dL_law_609 : decode cL_law 609 = .ok (.invokevirtual 76, 3) := by decide +kernel
theorem dL_law_612 : decode cL_law 612 = .ok (.if_icmp .eq 926, 3) := by decide +kernel
theorem dL_law_615 : decode cL_law 615 = .ok (.iconst 0, 1) := by decide +kernel
theorem dL_law_616 : decode cL_law 616 = .ok (.ireturn, 1) := by decide +kernel
theorem dL_law_617 : decode cL_law 617 = .ok (.aload_n 1, 1) := by decide +kernel
theorem dL_law_618 : decode cL_law 618 = .ok (.aload_n 0, 1) := by decide +kernel
theorem dL_law_619 : decode cL_law 619 = .ok (.iload 4, 2) := by decide +kernel
theorem dL_law_621 : decode cL_law 621 = .ok (.iconst 1, 1) := by decide +kernel
theorem dL_law_622 : decode cL_law 622 = .ok (.iadd, 1) := by decide +kernel
theorem dL_law_623 : decode cL_law 623 = .ok (.iaload, 1) := by decide +kernel
theorem dL_law_624 : decode cL_law 624 = .ok (.invokevirtual 77, 3) := by decide +kernel
theorem dL_law_627 : decode cL_law 627 = .ok (.aload_n 2, 1) := by decide +kernel
theorem dL_law_628 : decode cL_law 628 = .ok (.aload_n 0, 1) := by decide +kernel
theorem dL_law_629 : decode cL_law 629 = .ok (.iload 4, 2) := by decide +kernel
theorem dL_law_631 : decode cL_law 631 = .ok (.iconst 1, 1) := by decide +kernel
theorem dL_law_632 : decode cL_law 632 = .ok (.iadd, 1) := by decide +kernel
theorem dL_law_633 : decode cL_law 633 = .ok (.iaload, 1) := by decide +kernel
theorem dL_law_634 : decode cL_law 634 = .ok (.invokevirtual 80, 3) := by decide +kernel
theorem dL_law_637 : decode cL_law 637 = .ok (.if_icmp .eq 901, 3) := by decide +kernel
theorem dL_law_640 : decode cL_law 640 = .ok (.iconst 0, 1) := by decide +kernel
theorem dL_law_641 : decode cL_law 641 = .ok (.ireturn, 1) := by decide +kernel
theorem dL_law_642 : decode cL_law 642 = .ok (.aload_n 1, 1) := by decide +kernel
theorem dL_law_643 : decode cL_law 643 = .ok (.invokevirtual 81, 3) := by decide +kernel
theorem dL_law_646 : decode cL_law 646 = .ok (.aload_n 2, 1) := by decide +kernel
theorem dL_law_647 : decode cL_law 647 = .ok (.invokevirtual 84, 3) := by decide +kernel
theorem dL_law_650 : decode cL_law 650 = .ok (.if_icmp .eq 888, 3) := by decide +kernel
theorem dL_law_653 : decode cL_law 653 = .ok (.iconst 0, 1) := by decide +kernel
theorem dL_law_654 : decode cL_law 654 = .ok (.ireturn, 1) := by decide +kernel
theorem dL_law_655 : decode cL_law 655 = .ok (.aload_n 1, 1) := by decide +kernel
theorem dL_law_656 : decode cL_law 656 = .ok (.aload_n 0, 1) := by decide +kernel
theorem dL_law_657 : decode cL_law 657 = .ok (.iload 4, 2) := by decide +kernel
theorem dL_law_659 : decode cL_law 659 = .ok (.iconst 1, 1) := by decide +kernel
theorem dL_law_660 : decode cL_law 660 = .ok (.iadd, 1) := by decide +kernel
theorem dL_law_661 : decode cL_law 661 = .ok (.iaload, 1) := by decide +kernel
theorem dL_law_662 : decode cL_law 662 = .ok (.invokevirtual 85, 3) := by decide +kernel
theorem dL_law_665 : decode cL_law 665 = .ok (.aload_n 2, 1) := by decide +kernel
theorem dL_law_666 : decode cL_law 666 = .ok (.aload_n 0, 1) := by decide +kernel
theorem dL_law_667 : decode cL_law 667 = .ok (.iload 4, 2) := by decide +kernel
theorem dL_law_669 : decode cL_law 669 = .ok (.iconst 1, 1) := by decide +kernel
theorem dL_law_670 : decode cL_law 670 = .ok (.iadd, 1) := by decide +kernel
theorem dL_law_671 : decode cL_law 671 = .ok (.iaload, 1) := by decide +kernel
theorem dL_law_672 : decode cL_law 672 = .ok (.invokevirtual 88, 3) := by decide +kernel
theorem dL_law_675 : decode cL_law 675 = .ok (.if_icmp .eq 863, 3) := by decide +kernel
theorem dL_law_678 : decode cL_law 678 = .ok (.iconst 0, 1) := by decide +kernel
theorem dL_law_679 : decode cL_law 679 = .ok (.ireturn, 1) := by decide +kernel
theorem dL_law_680 : decode cL_law 680 = .ok (.aload_n 1, 1) := by decide +kernel
theorem dL_law_681 : decode cL_law 681 = .ok (.aload_n 0, 1) := by decide +kernel
theorem dL_law_682 : decode cL_law 682 = .ok (.iload 4, 2) := by decide +kernel
theorem dL_law_684 : decode cL_law 684 = .ok (.iconst 1, 1) := by decide +kernel
theorem dL_law_685 : decode cL_law 685 = .ok (.iadd, 1) := by decide +kernel
theorem dL_law_686 : decode cL_law 686 = .ok (.iaload, 1) := by decide +kernel
theorem dL_law_687 : decode cL_law 687 = .ok (.aload_n 0, 1) := by decide +kernel
theorem dL_law_688 : decode cL_law 688 = .ok (.iload 4, 2) := by decide +kernel
theorem dL_law_690 : decode cL_law 690 = .ok (.iconst 2, 1) := by decide +kernel
theorem dL_law_691 : decode cL_law 691 = .ok (.iadd, 1) := by decide +kernel
theorem dL_law_692 : decode cL_law 692 = .ok (.iaload, 1) := by decide +kernel
theorem dL_law_693 : decode cL_law 693 = .ok (.aload_n 0, 1) := by decide +kernel
theorem dL_law_694 : decode cL_law 694 = .ok (.iload 4, 2) := by decide +kernel
theorem dL_law_696 : decode cL_law 696 = .ok (.iconst 3, 1) := by decide +kernel
theorem dL_law_697 : decode cL_law 697 = .ok (.iadd, 1) := by decide +kernel
theorem dL_law_698 : decode cL_law 698 = .ok (.iaload, 1) := by decide +kernel
theorem dL_law_699 : decode cL_law 699 = .ok (.invokevirtual 89, 3) := by decide +kernel
theorem dL_law_702 : decode cL_law 702 = .ok (.aload_n 2, 1) := by decide +kernel
theorem dL_law_703 : decode cL_law 703 = .ok (.aload_n 0, 1) := by decide +kernel
theorem dL_law_704 : decode cL_law 704 = .ok (.iload 4, 2) := by decide +kernel
theorem dL_law_706 : decode cL_law 706 = .ok (.iconst 1, 1) := by decide +kernel
theorem dL_law_707 : decode cL_law 707 = .ok (.iadd, 1) := by decide +kernel
theorem dL_law_708 : decode cL_law 708 = .ok (.iaload, 1) := by decide +kernel
theorem dL_law_709 : decode cL_law 709 = .ok (.aload_n 0, 1) := by decide +kernel
theorem dL_law_710 : decode cL_law 710 = .ok (.iload 4, 2) := by decide +kernel
theorem dL_law_712 : decode cL_law 712 = .ok (.iconst 2, 1) := by decide +kernel
theorem dL_law_713 : decode cL_law 713 = .ok (.iadd, 1) := by decide +kernel
theorem dL_law_714 : decode cL_law 714 = .ok (.iaload, 1) := by decide +kernel
theorem dL_law_715 : decode cL_law 715 = .ok (.aload_n 0, 1) := by decide +kernel
theorem dL_law_716 : decode cL_law 716 = .ok (.iload 4, 2) := by decide +kernel
theorem dL_law_718 : decode cL_law 718 = .ok (.iconst 3, 1) := by decide +kernel
theorem dL_law_719 : decode cL_law 719 = .ok (.iadd, 1) := by decide +kernel
theorem dL_law_720 : decode cL_law 720 = .ok (.iaload, 1) := by decide +kernel
theorem dL_law_721 : decode cL_law 721 = .ok (.invokevirtual 92, 3) := by decide +kernel
theorem dL_law_724 : decode cL_law 724 = .ok (.if_icmp .eq 814, 3) := by decide +kernel
theorem dL_law_727 : decode cL_law 727 = .ok (.iconst 0, 1) := by decide +kernel
theorem dL_law_728 : decode cL_law 728 = .ok (.ireturn, 1) := by decide +kernel
theorem dL_law_729 : decode cL_law 729 = .ok (.aload_n 1, 1) := by decide +kernel
theorem dL_law_730 : decode cL_law 730 = .ok (.aload_n 0, 1) := by decide +kernel
theorem dL_law_731 : decode cL_law 731 = .ok (.iload 4, 2) := by decide +kernel
theorem dL_law_733 : decode cL_law 733 = .ok (.iconst 1, 1) := by decide +kernel
theorem dL_law_734 : decode cL_law 734 = .ok (.iadd, 1) := by decide +kernel
theorem dL_law_735 : decode cL_law 735 = .ok (.iaload, 1) := by decide +kernel
theorem dL_law_736 : decode cL_law 736 = .ok (.aload_n 0, 1) := by decide +kernel
theorem dL_law_737 : decode cL_law 737 = .ok (.iload 4, 2) := by decide +kernel
theorem dL_law_739 : decode cL_law 739 = .ok (.iconst 2, 1) := by decide +kernel
theorem dL_law_740 : decode cL_law 740 = .ok (.iadd, 1) := by decide +kernel
theorem dL_law_741 : decode cL_law 741 = .ok (.iaload, 1) := by decide +kernel
theorem dL_law_742 : decode cL_law 742 = .ok (.aload_n 0, 1) := by decide +kernel
theorem dL_law_743 : decode cL_law 743 = .ok (.iload 4, 2) := by decide +kernel
theorem dL_law_745 : decode cL_law 745 = .ok (.iconst 3, 1) := by decide +kernel
theorem dL_law_746 : decode cL_law 746 = .ok (.iadd, 1) := by decide +kernel
theorem dL_law_747 : decode cL_law 747 = .ok (.iaload, 1) := by decide +kernel
theorem dL_law_748 : decode cL_law 748 = .ok (.aload_n 0, 1) := by decide +kernel
theorem dL_law_749 : decode cL_law 749 = .ok (.iload 4, 2) := by decide +kernel
theorem dL_law_751 : decode cL_law 751 = .ok (.iconst 4, 1) := by decide +kernel
theorem dL_law_752 : decode cL_law 752 = .ok (.iadd, 1) := by decide +kernel
theorem dL_law_753 : decode cL_law 753 = .ok (.iaload, 1) := by decide +kernel
theorem dL_law_754 : decode cL_law 754 = .ok (.aload_n 0, 1) := by decide +kernel
theorem dL_law_755 : decode cL_law 755 = .ok (.iload 4, 2) := by decide +kernel
theorem dL_law_757 : decode cL_law 757 = .ok (.iconst 5, 1) := by decide +kernel
theorem dL_law_758 : decode cL_law 758 = .ok (.iadd, 1) := by decide +kernel
theorem dL_law_759 : decode cL_law 759 = .ok (.iaload, 1) := by decide +kernel
theorem dL_law_760 : decode cL_law 760 = .ok (.invokevirtual 93, 3) := by decide +kernel
theorem dL_law_763 : decode cL_law 763 = .ok (.aload_n 2, 1) := by decide +kernel
theorem dL_law_764 : decode cL_law 764 = .ok (.aload_n 0, 1) := by decide +kernel
theorem dL_law_765 : decode cL_law 765 = .ok (.iload 4, 2) := by decide +kernel
theorem dL_law_767 : decode cL_law 767 = .ok (.iconst 1, 1) := by decide +kernel
theorem dL_law_768 : decode cL_law 768 = .ok (.iadd, 1) := by decide +kernel
theorem dL_law_769 : decode cL_law 769 = .ok (.iaload, 1) := by decide +kernel
theorem dL_law_770 : decode cL_law 770 = .ok (.aload_n 0, 1) := by decide +kernel
theorem dL_law_771 : decode cL_law 771 = .ok (.iload 4, 2) := by decide +kernel
theorem dL_law_773 : decode cL_law 773 = .ok (.iconst 2, 1) := by decide +kernel
theorem dL_law_774 : decode cL_law 774 = .ok (.iadd, 1) := by decide +kernel
theorem dL_law_775 : decode cL_law 775 = .ok (.iaload, 1) := by decide +kernel
theorem dL_law_776 : decode cL_law 776 = .ok (.aload_n 0, 1) := by decide +kernel
theorem dL_law_777 : decode cL_law 777 = .ok (.iload 4, 2) := by decide +kernel
theorem dL_law_779 : decode cL_law 779 = .ok (.iconst 3, 1) := by decide +kernel
theorem dL_law_780 : decode cL_law 780 = .ok (.iadd, 1) := by decide +kernel
theorem dL_law_781 : decode cL_law 781 = .ok (.iaload, 1) := by decide +kernel
theorem dL_law_782 : decode cL_law 782 = .ok (.aload_n 0, 1) := by decide +kernel
theorem dL_law_783 : decode cL_law 783 = .ok (.iload 4, 2) := by decide +kernel
theorem dL_law_785 : decode cL_law 785 = .ok (.iconst 4, 1) := by decide +kernel
theorem dL_law_786 : decode cL_law 786 = .ok (.iadd, 1) := by decide +kernel
theorem dL_law_787 : decode cL_law 787 = .ok (.iaload, 1) := by decide +kernel
theorem dL_law_788 : decode cL_law 788 = .ok (.aload_n 0, 1) := by decide +kernel
theorem dL_law_789 : decode cL_law 789 = .ok (.iload 4, 2) := by decide +kernel
theorem dL_law_791 : decode cL_law 791 = .ok (.iconst 5, 1) := by decide +kernel
theorem dL_law_792 : decode cL_law 792 = .ok (.iadd, 1) := by decide +kernel
theorem dL_law_793 : decode cL_law 793 = .ok (.iaload, 1) := by decide +kernel
theorem dL_law_794 : decode cL_law 794 = .ok (.invokevirtual 97, 3) := by decide +kernel
theorem dL_law_797 : decode cL_law 797 = .ok (.lcmp, 1) := by decide +kernel
theorem dL_law_798 : decode cL_law 798 = .ok (.ifCond .eq 740, 3) := by decide +kernel
theorem dL_law_801 : decode cL_law 801 = .ok (.iconst 0, 1) := by decide +kernel
theorem dL_law_802 : decode cL_law 802 = .ok (.ireturn, 1) := by decide +kernel
theorem dL_law_803 : decode cL_law 803 = .ok (.aload_n 1, 1) := by decide +kernel
theorem dL_law_804 : decode cL_law 804 = .ok (.aload_n 0, 1) := by decide +kernel
theorem dL_law_805 : decode cL_law 805 = .ok (.iload 4, 2) := by decide +kernel
theorem dL_law_807 : decode cL_law 807 = .ok (.iconst 1, 1) := by decide +kernel
theorem dL_law_808 : decode cL_law 808 = .ok (.iadd, 1) := by decide +kernel
theorem dL_law_809 : decode cL_law 809 = .ok (.iaload, 1) := by decide +kernel
theorem dL_law_810 : decode cL_law 810 = .ok (.aload_n 0, 1) := by decide +kernel
theorem dL_law_811 : decode cL_law 811 = .ok (.iload 4, 2) := by decide +kernel
theorem dL_law_813 : decode cL_law 813 = .ok (.iconst 2, 1) := by decide +kernel
theorem dL_law_814 : decode cL_law 814 = .ok (.iadd, 1) := by decide +kernel
theorem dL_law_815 : decode cL_law 815 = .ok (.iaload, 1) := by decide +kernel
theorem dL_law_816 : decode cL_law 816 = .ok (.aload_n 0, 1) := by decide +kernel
theorem dL_law_817 : decode cL_law 817 = .ok (.iload 4, 2) := by decide +kernel
theorem dL_law_819 : decode cL_law 819 = .ok (.iconst 3, 1) := by decide +kernel
theorem dL_law_820 : decode cL_law 820 = .ok (.iadd, 1) := by decide +kernel
theorem dL_law_821 : decode cL_law 821 = .ok (.iaload, 1) := by decide +kernel
theorem dL_law_822 : decode cL_law 822 = .ok (.aload_n 0, 1) := by decide +kernel
theorem dL_law_823 : decode cL_law 823 = .ok (.iload 4, 2) := by decide +kernel
theorem dL_law_825 : decode cL_law 825 = .ok (.iconst 4, 1) := by decide +kernel
theorem dL_law_826 : decode cL_law 826 = .ok (.iadd, 1) := by decide +kernel
theorem dL_law_827 : decode cL_law 827 = .ok (.iaload, 1) := by decide +kernel
theorem dL_law_828 : decode cL_law 828 = .ok (.invokevirtual 98, 3) := by decide +kernel
theorem dL_law_831 : decode cL_law 831 = .ok (.aload_n 2, 1) := by decide +kernel
theorem dL_law_832 : decode cL_law 832 = .ok (.aload_n 0, 1) := by decide +kernel
theorem dL_law_833 : decode cL_law 833 = .ok (.iload 4, 2) := by decide +kernel
theorem dL_law_835 : decode cL_law 835 = .ok (.iconst 1, 1) := by decide +kernel
theorem dL_law_836 : decode cL_law 836 = .ok (.iadd, 1) := by decide +kernel
theorem dL_law_837 : decode cL_law 837 = .ok (.iaload, 1) := by decide +kernel
theorem dL_law_838 : decode cL_law 838 = .ok (.aload_n 0, 1) := by decide +kernel
theorem dL_law_839 : decode cL_law 839 = .ok (.iload 4, 2) := by decide +kernel
theorem dL_law_841 : decode cL_law 841 = .ok (.iconst 2, 1) := by decide +kernel
theorem dL_law_842 : decode cL_law 842 = .ok (.iadd, 1) := by decide +kernel
theorem dL_law_843 : decode cL_law 843 = .ok (.iaload, 1) := by decide +kernel
theorem dL_law_844 : decode cL_law 844 = .ok (.aload_n 0, 1) := by decide +kernel
theorem dL_law_845 : decode cL_law 845 = .ok (.iload 4, 2) := by decide +kernel
theorem dL_law_847 : decode cL_law 847 = .ok (.iconst 3, 1) := by decide +kernel
theorem dL_law_848 : decode cL_law 848 = .ok (.iadd, 1) := by decide +kernel
theorem dL_law_849 : decode cL_law 849 = .ok (.iaload, 1) := by decide +kernel
theorem dL_law_850 : decode cL_law 850 = .ok (.aload_n 0, 1) := by decide +kernel
theorem dL_law_851 : decode cL_law 851 = .ok (.iload 4, 2) := by decide +kernel
theorem dL_law_853 : decode cL_law 853 = .ok (.iconst 4, 1) := by decide +kernel
theorem dL_law_854 : decode cL_law 854 = .ok (.iadd, 1) := by decide +kernel
theorem dL_law_855 : decode cL_law 855 = .ok (.iaload, 1) := by decide +kernel
theorem dL_law_856 : decode cL_law 856 = .ok (.invokevirtual 102, 3) := by decide +kernel
theorem dL_law_859 : decode cL_law 859 = .ok (.if_icmp .eq 679, 3) := by decide +kernel
theorem dL_law_862 : decode cL_law 862 = .ok (.iconst 0, 1) := by decide +kernel
theorem dL_law_863 : decode cL_law 863 = .ok (.ireturn, 1) := by decide +kernel
theorem dL_law_864 : decode cL_law 864 = .ok (.aload_n 1, 1) := by decide +kernel
theorem dL_law_865 : decode cL_law 865 = .ok (.aload_n 0, 1) := by decide +kernel
theorem dL_law_866 : decode cL_law 866 = .ok (.iload 4, 2) := by decide +kernel
theorem dL_law_868 : decode cL_law 868 = .ok (.iconst 1, 1) := by decide +kernel
theorem dL_law_869 : decode cL_law 869 = .ok (.iadd, 1) := by decide +kernel
theorem dL_law_870 : decode cL_law 870 = .ok (.iaload, 1) := by decide +kernel
theorem dL_law_871 : decode cL_law 871 = .ok (.aload_n 0, 1) := by decide +kernel
theorem dL_law_872 : decode cL_law 872 = .ok (.iload 4, 2) := by decide +kernel
theorem dL_law_874 : decode cL_law 874 = .ok (.iconst 2, 1) := by decide +kernel
theorem dL_law_875 : decode cL_law 875 = .ok (.iadd, 1) := by decide +kernel
theorem dL_law_876 : decode cL_law 876 = .ok (.iaload, 1) := by decide +kernel
theorem dL_law_877 : decode cL_law 877 = .ok (.invokevirtual 103, 3) := by decide +kernel
theorem dL_law_880 : decode cL_law 880 = .ok (.aload_n 2, 1) := by decide +kernel
theorem dL_law_881 : decode cL_law 881 = .ok (.aload_n 0, 1) := by decide +kernel
theorem dL_law_882 : decode cL_law 882 = .ok (.iload 4, 2) := by decide +kernel
theorem dL_law_884 : decode cL_law 884 = .ok (.iconst 1, 1) := by decide +kernel
theorem dL_law_885 : decode cL_law 885 = .ok (.iadd, 1) := by decide +kernel
theorem dL_law_886 : decode cL_law 886 = .ok (.iaload, 1) := by decide +kernel
theorem dL_law_887 : decode cL_law 887 = .ok (.aload_n 0, 1) := by decide +kernel
theorem dL_law_888 : decode cL_law 888 = .ok (.iload 4, 2) := by decide +kernel
theorem dL_law_890 : decode cL_law 890 = .ok (.iconst 2, 1) := by decide +kernel
theorem dL_law_891 : decode cL_law 891 = .ok (.iadd, 1) := by decide +kernel
theorem dL_law_892 : decode cL_law 892 = .ok (.iaload, 1) := by decide +kernel
theorem dL_law_893 : decode cL_law 893 = .ok (.invokevirtual 106, 3) := by decide +kernel
theorem dL_law_896 : decode cL_law 896 = .ok (.if_icmp .eq 642, 3) := by decide +kernel
theorem dL_law_899 : decode cL_law 899 = .ok (.iconst 0, 1) := by decide +kernel
theorem dL_law_900 : decode cL_law 900 = .ok (.ireturn, 1) := by decide +kernel
theorem dL_law_901 : decode cL_law 901 = .ok (.aload_n 1, 1) := by decide +kernel
theorem dL_law_902 : decode cL_law 902 = .ok (.aload_n 0, 1) := by decide +kernel
theorem dL_law_903 : decode cL_law 903 = .ok (.iload 4, 2) := by decide +kernel
theorem dL_law_905 : decode cL_law 905 = .ok (.iconst 1, 1) := by decide +kernel
theorem dL_law_906 : decode cL_law 906 = .ok (.iadd, 1) := by decide +kernel
theorem dL_law_907 : decode cL_law 907 = .ok (.iaload, 1) := by decide +kernel
theorem dL_law_908 : decode cL_law 908 = .ok (.aload_n 0, 1) := by decide +kernel
theorem dL_law_909 : decode cL_law 909 = .ok (.iload 4, 2) := by decide +kernel
theorem dL_law_911 : decode cL_law 911 = .ok (.iconst 2, 1) := by decide +kernel
theorem dL_law_912 : decode cL_law 912 = .ok (.iadd, 1) := by decide +kernel
theorem dL_law_913 : decode cL_law 913 = .ok (.iaload, 1) := by decide +kernel
theorem dL_law_914 : decode cL_law 914 = .ok (.invokevirtual 107, 3) := by decide +kernel
theorem dL_law_917 : decode cL_law 917 = .ok (.aload_n 2, 1) := by decide +kernel
theorem dL_law_918 : decode cL_law 918 = .ok (.aload_n 0, 1) := by decide +kernel
theorem dL_law_919 : decode cL_law 919 = .ok (.iload 4, 2) := by decide +kernel
theorem dL_law_921 : decode cL_law 921 = .ok (.iconst 1, 1) := by decide +kernel
theorem dL_law_922 : decode cL_law 922 = .ok (.iadd, 1) := by decide +kernel
theorem dL_law_923 : decode cL_law 923 = .ok (.iaload, 1) := by decide +kernel
theorem dL_law_924 : decode cL_law 924 = .ok (.aload_n 0, 1) := by decide +kernel
theorem dL_law_925 : decode cL_law 925 = .ok (.iload 4, 2) := by decide +kernel
theorem dL_law_927 : decode cL_law 927 = .ok (.iconst 2, 1) := by decide +kernel
theorem dL_law_928 : decode cL_law 928 = .ok (.iadd, 1) := by decide +kernel
theorem dL_law_929 : decode cL_law 929 = .ok (.iaload, 1) := by decide +kernel
theorem dL_law_930 : decode cL_law 930 = .ok (.invokevirtual 110, 3) := by decide +kernel
theorem dL_law_933 : decode cL_law 933 = .ok (.if_icmp .eq 605, 3) := by decide +kernel
theorem dL_law_936 : decode cL_law 936 = .ok (.iconst 0, 1) := by decide +kernel
theorem dL_law_937 : decode cL_law 937 = .ok (.ireturn, 1) := by decide +kernel
theorem dL_law_938 : decode cL_law 938 = .ok (.aload_n 1, 1) := by decide +kernel
theorem dL_law_939 : decode cL_law 939 = .ok (.invokevirtual 111, 3) := by decide +kernel
theorem dL_law_942 : decode cL_law 942 = .ok (.aload_n 2, 1) := by decide +kernel
theorem dL_law_943 : decode cL_law 943 = .ok (.invokevirtual 114, 3) := by decide +kernel
theorem dL_law_946 : decode cL_law 946 = .ok (.if_icmp .eq 592, 3) := by decide +kernel
theorem dL_law_949 : decode cL_law 949 = .ok (.iconst 0, 1) := by decide +kernel
theorem dL_law_950 : decode cL_law 950 = .ok (.ireturn, 1) := by decide +kernel
theorem dL_law_951 : decode cL_law 951 = .ok (.aload_n 1, 1) := by decide +kernel
theorem dL_law_952 : decode cL_law 952 = .ok (.aload_n 0, 1) := by decide +kernel
theorem dL_law_953 : decode cL_law 953 = .ok (.iload 4, 2) := by decide +kernel
theorem dL_law_955 : decode cL_law 955 = .ok (.iconst 1, 1) := by decide +kernel
theorem dL_law_956 : decode cL_law 956 = .ok (.iadd, 1) := by decide +kernel
theorem dL_law_957 : decode cL_law 957 = .ok (.iaload, 1) := by decide +kernel
theorem dL_law_958 : decode cL_law 958 = .ok (.aload_n 0, 1) := by decide +kernel
theorem dL_law_959 : decode cL_law 959 = .ok (.iload 4, 2) := by decide +kernel
theorem dL_law_961 : decode cL_law 961 = .ok (.iconst 2, 1) := by decide +kernel
theorem dL_law_962 : decode cL_law 962 = .ok (.iadd, 1) := by decide +kernel
theorem dL_law_963 : decode cL_law 963 = .ok (.iaload, 1) := by decide +kernel
theorem dL_law_964 : decode cL_law 964 = .ok (.invokevirtual 115, 3) := by decide +kernel
theorem dL_law_967 : decode cL_law 967 = .ok (.aload_n 2, 1) := by decide +kernel
theorem dL_law_968 : decode cL_law 968 = .ok (.aload_n 0, 1) := by decide +kernel
theorem dL_law_969 : decode cL_law 969 = .ok (.iload 4, 2) := by decide +kernel
theorem dL_law_971 : decode cL_law 971 = .ok (.iconst 1, 1) := by decide +kernel
theorem dL_law_972 : decode cL_law 972 = .ok (.iadd, 1) := by decide +kernel
theorem dL_law_973 : decode cL_law 973 = .ok (.iaload, 1) := by decide +kernel
theorem dL_law_974 : decode cL_law 974 = .ok (.aload_n 0, 1) := by decide +kernel
theorem dL_law_975 : decode cL_law 975 = .ok (.iload 4, 2) := by decide +kernel
theorem dL_law_977 : decode cL_law 977 = .ok (.iconst 2, 1) := by decide +kernel
theorem dL_law_978 : decode cL_law 978 = .ok (.iadd, 1) := by decide +kernel
theorem dL_law_979 : decode cL_law 979 = .ok (.iaload, 1) := by decide +kernel
theorem dL_law_980 : decode cL_law 980 = .ok (.invokevirtual 118, 3) := by decide +kernel
theorem dL_law_983 : decode cL_law 983 = .ok (.if_icmp .eq 555, 3) := by decide +kernel
theorem dL_law_986 : decode cL_law 986 = .ok (.iconst 0, 1) := by decide +kernel
theorem dL_law_987 : decode cL_law 987 = .ok (.ireturn, 1) := by decide +kernel
theorem dL_law_988 : decode cL_law 988 = .ok (.aload_n 1, 1) := by decide +kernel
theorem dL_law_989 : decode cL_law 989 = .ok (.invokevirtual 119, 3) := by decide +kernel
theorem dL_law_992 : decode cL_law 992 = .ok (.aload_n 2, 1) := by decide +kernel
theorem dL_law_993 : decode cL_law 993 = .ok (.invokevirtual 122, 3) := by decide +kernel
theorem dL_law_996 : decode cL_law 996 = .ok (.if_icmp .eq 542, 3) := by decide +kernel
theorem dL_law_999 : decode cL_law 999 = .ok (.iconst 0, 1) := by decide +kernel
theorem dL_law_1000 : decode cL_law 1000 = .ok (.ireturn, 1) := by decide +kernel
theorem dL_law_1001 : decode cL_law 1001 = .ok (.aload_n 1, 1) := by decide +kernel
theorem dL_law_1002 : decode cL_law 1002 = .ok (.aload_n 0, 1) := by decide +kernel
theorem dL_law_1003 : decode cL_law 1003 = .ok (.iload 4, 2) := by decide +kernel
theorem dL_law_1005 : decode cL_law 1005 = .ok (.iconst 1, 1) := by decide +kernel
theorem dL_law_1006 : decode cL_law 1006 = .ok (.iadd, 1) := by decide +kernel
theorem dL_law_1007 : decode cL_law 1007 = .ok (.iaload, 1) := by decide +kernel
theorem dL_law_1008 : decode cL_law 1008 = .ok (.invokevirtual 123, 3) := by decide +kernel
theorem dL_law_1011 : decode cL_law 1011 = .ok (.aload_n 2, 1) := by decide +kernel
theorem dL_law_1012 : decode cL_law 1012 = .ok (.aload_n 0, 1) := by decide +kernel
theorem dL_law_1013 : decode cL_law 1013 = .ok (.iload 4, 2) := by decide +kernel
theorem dL_law_1015 : decode cL_law 1015 = .ok (.iconst 1, 1) := by decide +kernel
theorem dL_law_1016 : decode cL_law 1016 = .ok (.iadd, 1) := by decide +kernel
theorem dL_law_1017 : decode cL_law 1017 = .ok (.iaload, 1) := by decide +kernel
theorem dL_law_1018 : decode cL_law 1018 = .ok (.invokevirtual 127, 3) := by decide +kernel
theorem dL_law_1021 : decode cL_law 1021 = .ok (.lcmp, 1) := by decide +kernel
theorem dL_law_1022 : decode cL_law 1022 = .ok (.ifCond .eq 516, 3) := by decide +kernel
theorem dL_law_1025 : decode cL_law 1025 = .ok (.iconst 0, 1) := by decide +kernel
theorem dL_law_1026 : decode cL_law 1026 = .ok (.ireturn, 1) := by decide +kernel
theorem dL_law_1027 : decode cL_law 1027 = .ok (.aload_n 1, 1) := by decide +kernel
theorem dL_law_1028 : decode cL_law 1028 = .ok (.aload_n 0, 1) := by decide +kernel
theorem dL_law_1029 : decode cL_law 1029 = .ok (.iload 4, 2) := by decide +kernel
theorem dL_law_1031 : decode cL_law 1031 = .ok (.iconst 1, 1) := by decide +kernel
theorem dL_law_1032 : decode cL_law 1032 = .ok (.iadd, 1) := by decide +kernel
theorem dL_law_1033 : decode cL_law 1033 = .ok (.iaload, 1) := by decide +kernel
theorem dL_law_1034 : decode cL_law 1034 = .ok (.invokevirtual 128, 3) := by decide +kernel
theorem dL_law_1037 : decode cL_law 1037 = .ok (.aload_n 2, 1) := by decide +kernel
theorem dL_law_1038 : decode cL_law 1038 = .ok (.aload_n 0, 1) := by decide +kernel
theorem dL_law_1039 : decode cL_law 1039 = .ok (.iload 4, 2) := by decide +kernel
theorem dL_law_1041 : decode cL_law 1041 = .ok (.iconst 1, 1) := by decide +kernel
theorem dL_law_1042 : decode cL_law 1042 = .ok (.iadd, 1) := by decide +kernel
theorem dL_law_1043 : decode cL_law 1043 = .ok (.iaload, 1) := by decide +kernel
theorem dL_law_1044 : decode cL_law 1044 = .ok (.invokevirtual 131, 3) := by decide +kernel
theorem dL_law_1047 : decode cL_law 1047 = .ok (.if_icmp .eq 491, 3) := by decide +kernel
theorem dL_law_1050 : decode cL_law 1050 = .ok (.iconst 0, 1) := by decide +kernel
theorem dL_law_1051 : decode cL_law 1051 = .ok (.ireturn, 1) := by decide +kernel
theorem dL_law_1052 : decode cL_law 1052 = .ok (.aload_n 1, 1) := by decide +kernel
theorem dL_law_1053 : decode cL_law 1053 = .ok (.aload_n 0, 1) := by decide +kernel
theorem dL_law_1054 : decode cL_law 1054 = .ok (.iload 4, 2) := by decide +kernel
theorem dL_law_1056 : decode cL_law 1056 = .ok (.iconst 1, 1) := by decide +kernel
theorem dL_law_1057 : decode cL_law 1057 = .ok (.iadd, 1) := by decide +kernel
theorem dL_law_1058 : decode cL_law 1058 = .ok (.iaload, 1) := by decide +kernel
theorem dL_law_1059 : decode cL_law 1059 = .ok (.aload_n 0, 1) := by decide +kernel
theorem dL_law_1060 : decode cL_law 1060 = .ok (.iload 4, 2) := by decide +kernel
theorem dL_law_1062 : decode cL_law 1062 = .ok (.iconst 2, 1) := by decide +kernel
theorem dL_law_1063 : decode cL_law 1063 = .ok (.iadd, 1) := by decide +kernel
theorem dL_law_1064 : decode cL_law 1064 = .ok (.iaload, 1) := by decide +kernel
theorem dL_law_1065 : decode cL_law 1065 = .ok (.invokevirtual 132, 3) := by decide +kernel
theorem dL_law_1068 : decode cL_law 1068 = .ok (.aload_n 2, 1) := by decide +kernel
theorem dL_law_1069 : decode cL_law 1069 = .ok (.aload_n 0, 1) := by decide +kernel
theorem dL_law_1070 : decode cL_law 1070 = .ok (.iload 4, 2) := by decide +kernel
theorem dL_law_1072 : decode cL_law 1072 = .ok (.iconst 1, 1) := by decide +kernel
theorem dL_law_1073 : decode cL_law 1073 = .ok (.iadd, 1) := by decide +kernel
theorem dL_law_1074 : decode cL_law 1074 = .ok (.iaload, 1) := by decide +kernel
theorem dL_law_1075 : decode cL_law 1075 = .ok (.aload_n 0, 1) := by decide +kernel
theorem dL_law_1076 : decode cL_law 1076 = .ok (.iload 4, 2) := by decide +kernel
theorem dL_law_1078 : decode cL_law 1078 = .ok (.iconst 2, 1) := by decide +kernel
theorem dL_law_1079 : decode cL_law 1079 = .ok (.iadd, 1) := by decide +kernel
theorem dL_law_1080 : decode cL_law 1080 = .ok (.iaload, 1) := by decide +kernel
theorem dL_law_1081 : decode cL_law 1081 = .ok (.invokevirtual 135, 3) := by decide +kernel
theorem dL_law_1084 : decode cL_law 1084 = .ok (.if_icmp .eq 454, 3) := by decide +kernel
theorem dL_law_1087 : decode cL_law 1087 = .ok (.iconst 0, 1) := by decide +kernel
theorem dL_law_1088 : decode cL_law 1088 = .ok (.ireturn, 1) := by decide +kernel
theorem dL_law_1089 : decode cL_law 1089 = .ok (.aload_n 1, 1) := by decide +kernel
theorem dL_law_1090 : decode cL_law 1090 = .ok (.aload_n 0, 1) := by decide +kernel
theorem dL_law_1091 : decode cL_law 1091 = .ok (.iload 4, 2) := by decide +kernel
theorem dL_law_1093 : decode cL_law 1093 = .ok (.iconst 1, 1) := by decide +kernel
theorem dL_law_1094 : decode cL_law 1094 = .ok (.iadd, 1) := by decide +kernel
theorem dL_law_1095 : decode cL_law 1095 = .ok (.iaload, 1) := by decide +kernel
theorem dL_law_1096 : decode cL_law 1096 = .ok (.aload_n 0, 1) := by decide +kernel
theorem dL_law_1097 : decode cL_law 1097 = .ok (.iload 4, 2) := by decide +kernel
theorem dL_law_1099 : decode cL_law 1099 = .ok (.iconst 2, 1) := by decide +kernel
theorem dL_law_1100 : decode cL_law 1100 = .ok (.iadd, 1) := by decide +kernel
theorem dL_law_1101 : decode cL_law 1101 = .ok (.iaload, 1) := by decide +kernel
theorem dL_law_1102 : decode cL_law 1102 = .ok (.aload_n 0, 1) := by decide +kernel
theorem dL_law_1103 : decode cL_law 1103 = .ok (.iload 4, 2) := by decide +kernel
theorem dL_law_1105 : decode cL_law 1105 = .ok (.iconst 3, 1) := by decide +kernel
theorem dL_law_1106 : decode cL_law 1106 = .ok (.iadd, 1) := by decide +kernel
theorem dL_law_1107 : decode cL_law 1107 = .ok (.iaload, 1) := by decide +kernel
theorem dL_law_1108 : decode cL_law 1108 = .ok (.invokevirtual 136, 3) := by decide +kernel
theorem dL_law_1111 : decode cL_law 1111 = .ok (.aload_n 2, 1) := by decide +kernel
theorem dL_law_1112 : decode cL_law 1112 = .ok (.aload_n 0, 1) := by decide +kernel
theorem dL_law_1113 : decode cL_law 1113 = .ok (.iload 4, 2) := by decide +kernel
theorem dL_law_1115 : decode cL_law 1115 = .ok (.iconst 1, 1) := by decide +kernel
theorem dL_law_1116 : decode cL_law 1116 = .ok (.iadd, 1) := by decide +kernel
theorem dL_law_1117 : decode cL_law 1117 = .ok (.iaload, 1) := by decide +kernel
theorem dL_law_1118 : decode cL_law 1118 = .ok (.aload_n 0, 1) := by decide +kernel
theorem dL_law_1119 : decode cL_law 1119 = .ok (.iload 4, 2) := by decide +kernel
theorem dL_law_1121 : decode cL_law 1121 = .ok (.iconst 2, 1) := by decide +kernel
theorem dL_law_1122 : decode cL_law 1122 = .ok (.iadd, 1) := by decide +kernel
theorem dL_law_1123 : decode cL_law 1123 = .ok (.iaload, 1) := by decide +kernel
theorem dL_law_1124 : decode cL_law 1124 = .ok (.aload_n 0, 1) := by decide +kernel
theorem dL_law_1125 : decode cL_law 1125 = .ok (.iload 4, 2) := by decide +kernel
theorem dL_law_1127 : decode cL_law 1127 = .ok (.iconst 3, 1) := by decide +kernel
theorem dL_law_1128 : decode cL_law 1128 = .ok (.iadd, 1) := by decide +kernel
theorem dL_law_1129 : decode cL_law 1129 = .ok (.iaload, 1) := by decide +kernel
theorem dL_law_1130 : decode cL_law 1130 = .ok (.invokevirtual 139, 3) := by decide +kernel
theorem dL_law_1133 : decode cL_law 1133 = .ok (.if_icmp .eq 405, 3) := by decide +kernel
theorem dL_law_1136 : decode cL_law 1136 = .ok (.iconst 0, 1) := by decide +kernel
theorem dL_law_1137 : decode cL_law 1137 = .ok (.ireturn, 1) := by decide +kernel
theorem dL_law_1138 : decode cL_law 1138 = .ok (.aload_n 1, 1) := by decide +kernel
theorem dL_law_1139 : decode cL_law 1139 = .ok (.invokevirtual 140, 3) := by decide +kernel
theorem dL_law_1142 : decode cL_law 1142 = .ok (.aload_n 2, 1) := by decide +kernel
theorem dL_law_1143 : decode cL_law 1143 = .ok (.invokevirtual 143, 3) := by decide +kernel
theorem dL_law_1146 : decode cL_law 1146 = .ok (.if_icmp .eq 392, 3) := by decide +kernel
theorem dL_law_1149 : decode cL_law 1149 = .ok (.iconst 0, 1) := by decide +kernel
theorem dL_law_1150 : decode cL_law 1150 = .ok (.ireturn, 1) := by decide +kernel
theorem dL_law_1151 : decode cL_law 1151 = .ok (.aload_n 1, 1) := by decide +kernel
theorem dL_law_1152 : decode cL_law 1152 = .ok (.invokevirtual 144, 3) := by decide +kernel
theorem dL_law_1155 : decode cL_law 1155 = .ok (.aload_n 2, 1) := by decide +kernel
theorem dL_law_1156 : decode cL_law 1156 = .ok (.invokevirtual 147, 3) := by decide +kernel
theorem dL_law_1159 : decode cL_law 1159 = .ok (.if_icmp .eq 379, 3) := by decide +kernel
theorem dL_law_1162 : decode cL_law 1162 = .ok (.iconst 0, 1) := by decide +kernel
theorem dL_law_1163 : decode cL_law 1163 = .ok (.ireturn, 1) := by decide +kernel
theorem dL_law_1164 : decode cL_law 1164 = .ok (.aload_n 1, 1) := by decide +kernel
theorem dL_law_1165 : decode cL_law 1165 = .ok (.aload_n 0, 1) := by decide +kernel
theorem dL_law_1166 : decode cL_law 1166 = .ok (.iload 4, 2) := by decide +kernel
theorem dL_law_1168 : decode cL_law 1168 = .ok (.iconst 1, 1) := by decide +kernel
theorem dL_law_1169 : decode cL_law 1169 = .ok (.iadd, 1) := by decide +kernel
theorem dL_law_1170 : decode cL_law 1170 = .ok (.iaload, 1) := by decide +kernel
theorem dL_law_1171 : decode cL_law 1171 = .ok (.invokevirtual 148, 3) := by decide +kernel
theorem dL_law_1174 : decode cL_law 1174 = .ok (.aload_n 2, 1) := by decide +kernel
theorem dL_law_1175 : decode cL_law 1175 = .ok (.aload_n 0, 1) := by decide +kernel
theorem dL_law_1176 : decode cL_law 1176 = .ok (.iload 4, 2) := by decide +kernel
theorem dL_law_1178 : decode cL_law 1178 = .ok (.iconst 1, 1) := by decide +kernel
theorem dL_law_1179 : decode cL_law 1179 = .ok (.iadd, 1) := by decide +kernel
theorem dL_law_1180 : decode cL_law 1180 = .ok (.iaload, 1) := by decide +kernel
theorem dL_law_1181 : decode cL_law 1181 = .ok (.invokevirtual 151, 3) := by decide +kernel
theorem dL_law_1184 : decode cL_law 1184 = .ok (.if_icmp .eq 354, 3) := by decide +kernel
theorem dL_law_1187 : decode cL_law 1187 = .ok (.iconst 0, 1) := by decide +kernel
theorem dL_law_1188 : decode cL_law 1188 = .ok (.ireturn, 1) := by decide +kernel
theorem dL_law_1189 : decode cL_law 1189 = .ok (.aload_n 1, 1) := by decide +kernel
theorem dL_law_1190 : decode cL_law 1190 = .ok (.aload_n 0, 1) := by decide +kernel
theorem dL_law_1191 : decode cL_law 1191 = .ok (.iload 4, 2) := by decide +kernel
theorem dL_law_1193 : decode cL_law 1193 = .ok (.iconst 1, 1) := by decide +kernel
theorem dL_law_1194 : decode cL_law 1194 = .ok (.iadd, 1) := by decide +kernel
theorem dL_law_1195 : decode cL_law 1195 = .ok (.iaload, 1) := by decide +kernel
theorem dL_law_1196 : decode cL_law 1196 = .ok (.aload_n 0, 1) := by decide +kernel
theorem dL_law_1197 : decode cL_law 1197 = .ok (.iload 4, 2) := by decide +kernel
theorem dL_law_1199 : decode cL_law 1199 = .ok (.iconst 2, 1) := by decide +kernel
theorem dL_law_1200 : decode cL_law 1200 = .ok (.iadd, 1) := by decide +kernel
theorem dL_law_1201 : decode cL_law 1201 = .ok (.iaload, 1) := by decide +kernel
theorem dL_law_1202 : decode cL_law 1202 = .ok (.aload_n 0, 1) := by decide +kernel
theorem dL_law_1203 : decode cL_law 1203 = .ok (.iload 4, 2) := by decide +kernel
theorem dL_law_1205 : decode cL_law 1205 = .ok (.iconst 3, 1) := by decide +kernel
theorem dL_law_1206 : decode cL_law 1206 = .ok (.iadd, 1) := by decide +kernel
theorem dL_law_1207 : decode cL_law 1207 = .ok (.iaload, 1) := by decide +kernel
theorem dL_law_1208 : decode cL_law 1208 = .ok (.aload_n 0, 1) := by decide +kernel
theorem dL_law_1209 : decode cL_law 1209 = .ok (.iload 4, 2) := by decide +kernel
theorem dL_law_1211 : decode cL_law 1211 = .ok (.iconst 4, 1) := by decide +kernel
theorem dL_law_1212 : decode cL_law 1212 = .ok (.iadd, 1) := by decide +kernel
theorem dL_law_1213 : decode cL_law 1213 = .ok (.iaload, 1) := by decide +kernel
theorem dL_law_1214 : decode cL_law 1214 = .ok (.invokevirtual 152, 3) := by decide +kernel
theorem dL_law_1217 : decode cL_law 1217 = .ok (.aload_n 2, 1) := by decide +kernel
theorem dL_law_1218 : decode cL_law 1218 = .ok (.aload_n 0, 1) := by decide +kernel
theorem dL_law_1219 : decode cL_law 1219 = .ok (.iload 4, 2) := by decide +kernel
theorem dL_law_1221 : decode cL_law 1221 = .ok (.iconst 1, 1) := by decide +kernel
theorem dL_law_1222 : decode cL_law 1222 = .ok (.iadd, 1) := by decide +kernel
theorem dL_law_1223 : decode cL_law 1223 = .ok (.iaload, 1) := by decide +kernel
theorem dL_law_1224 : decode cL_law 1224 = .ok (.aload_n 0, 1) := by decide +kernel
theorem dL_law_1225 : decode cL_law 1225 = .ok (.iload 4, 2) := by decide +kernel
theorem dL_law_1227 : decode cL_law 1227 = .ok (.iconst 2, 1) := by decide +kernel
theorem dL_law_1228 : decode cL_law 1228 = .ok (.iadd, 1) := by decide +kernel
theorem dL_law_1229 : decode cL_law 1229 = .ok (.iaload, 1) := by decide +kernel
theorem dL_law_1230 : decode cL_law 1230 = .ok (.aload_n 0, 1) := by decide +kernel
theorem dL_law_1231 : decode cL_law 1231 = .ok (.iload 4, 2) := by decide +kernel
theorem dL_law_1233 : decode cL_law 1233 = .ok (.iconst 3, 1) := by decide +kernel
theorem dL_law_1234 : decode cL_law 1234 = .ok (.iadd, 1) := by decide +kernel
theorem dL_law_1235 : decode cL_law 1235 = .ok (.iaload, 1) := by decide +kernel
theorem dL_law_1236 : decode cL_law 1236 = .ok (.aload_n 0, 1) := by decide +kernel
theorem dL_law_1237 : decode cL_law 1237 = .ok (.iload 4, 2) := by decide +kernel
theorem dL_law_1239 : decode cL_law 1239 = .ok (.iconst 4, 1) := by decide +kernel
theorem dL_law_1240 : decode cL_law 1240 = .ok (.iadd, 1) := by decide +kernel
theorem dL_law_1241 : decode cL_law 1241 = .ok (.iaload, 1) := by decide +kernel
theorem dL_law_1242 : decode cL_law 1242 = .ok (.invokevirtual 155, 3) := by decide +kernel
theorem dL_law_1245 : decode cL_law 1245 = .ok (.if_icmp .eq 293, 3) := by decide +kernel
theorem dL_law_1248 : decode cL_law 1248 = .ok (.iconst 0, 1) := by decide +kernel
theorem dL_law_1249 : decode cL_law 1249 = .ok (.ireturn, 1) := by decide +kernel
theorem dL_law_1250 : decode cL_law 1250 = .ok (.aload_n 1, 1) := by decide +kernel
theorem dL_law_1251 : decode cL_law 1251 = .ok (.aload_n 0, 1) := by decide +kernel
theorem dL_law_1252 : decode cL_law 1252 = .ok (.iload 4, 2) := by decide +kernel
theorem dL_law_1254 : decode cL_law 1254 = .ok (.iconst 1, 1) := by decide +kernel
theorem dL_law_1255 : decode cL_law 1255 = .ok (.iadd, 1) := by decide +kernel
theorem dL_law_1256 : decode cL_law 1256 = .ok (.iaload, 1) := by decide +kernel
theorem dL_law_1257 : decode cL_law 1257 = .ok (.aload_n 0, 1) := by decide +kernel
theorem dL_law_1258 : decode cL_law 1258 = .ok (.iload 4, 2) := by decide +kernel
theorem dL_law_1260 : decode cL_law 1260 = .ok (.iconst 2, 1) := by decide +kernel
theorem dL_law_1261 : decode cL_law 1261 = .ok (.iadd, 1) := by decide +kernel
theorem dL_law_1262 : decode cL_law 1262 = .ok (.iaload, 1) := by decide +kernel
theorem dL_law_1263 : decode cL_law 1263 = .ok (.aload_n 0, 1) := by decide +kernel
theorem dL_law_1264 : decode cL_law 1264 = .ok (.iload 4, 2) := by decide +kernel
theorem dL_law_1266 : decode cL_law 1266 = .ok (.iconst 3, 1) := by decide +kernel
theorem dL_law_1267 : decode cL_law 1267 = .ok (.iadd, 1) := by decide +kernel
theorem dL_law_1268 : decode cL_law 1268 = .ok (.iaload, 1) := by decide +kernel
theorem dL_law_1269 : decode cL_law 1269 = .ok (.invokevirtual 156, 3) := by decide +kernel
theorem dL_law_1272 : decode cL_law 1272 = .ok (.aload_n 2, 1) := by decide +kernel
theorem dL_law_1273 : decode cL_law 1273 = .ok (.aload_n 0, 1) := by decide +kernel
theorem dL_law_1274 : decode cL_law 1274 = .ok (.iload 4, 2) := by decide +kernel
theorem dL_law_1276 : decode cL_law 1276 = .ok (.iconst 1, 1) := by decide +kernel
theorem dL_law_1277 : decode cL_law 1277 = .ok (.iadd, 1) := by decide +kernel
theorem dL_law_1278 : decode cL_law 1278 = .ok (.iaload, 1) := by decide +kernel
theorem dL_law_1279 : decode cL_law 1279 = .ok (.aload_n 0, 1) := by decide +kernel
theorem dL_law_1280 : decode cL_law 1280 = .ok (.iload 4, 2) := by decide +kernel
theorem dL_law_1282 : decode cL_law 1282 = .ok (.iconst 2, 1) := by decide +kernel
theorem dL_law_1283 : decode cL_law 1283 = .ok (.iadd, 1) := by decide +kernel
theorem dL_law_1284 : decode cL_law 1284 = .ok (.iaload, 1) := by decide +kernel
theorem dL_law_1285 : decode cL_law 1285 = .ok (.aload_n 0, 1) := by decide +kernel
theorem dL_law_1286 : decode cL_law 1286 = .ok (.iload 4, 2) := by decide +kernel
theorem dL_law_1288 : decode cL_law 1288 = .ok (.iconst 3, 1) := by decide +kernel
theorem dL_law_1289 : decode cL_law 1289 = .ok (.iadd, 1) := by decide +kernel
theorem dL_law_1290 : decode cL_law 1290 = .ok (.iaload, 1) := by decide +kernel
theorem dL_law_1291 : decode cL_law 1291 = .ok (.invokevirtual 159, 3) := by decide +kernel
theorem dL_law_1294 : decode cL_law 1294 = .ok (.if_icmp .eq 244, 3) := by decide +kernel
theorem dL_law_1297 : decode cL_law 1297 = .ok (.iconst 0, 1) := by decide +kernel
theorem dL_law_1298 : decode cL_law 1298 = .ok (.ireturn, 1) := by decide +kernel
theorem dL_law_1299 : decode cL_law 1299 = .ok (.aload_n 1, 1) := by decide +kernel
theorem dL_law_1300 : decode cL_law 1300 = .ok (.aload_n 0, 1) := by decide +kernel
theorem dL_law_1301 : decode cL_law 1301 = .ok (.iload 4, 2) := by decide +kernel
theorem dL_law_1303 : decode cL_law 1303 = .ok (.iconst 1, 1) := by decide +kernel
theorem dL_law_1304 : decode cL_law 1304 = .ok (.iadd, 1) := by decide +kernel
theorem dL_law_1305 : decode cL_law 1305 = .ok (.iaload, 1) := by decide +kernel
theorem dL_law_1306 : decode cL_law 1306 = .ok (.aload_n 0, 1) := by decide +kernel
theorem dL_law_1307 : decode cL_law 1307 = .ok (.iload 4, 2) := by decide +kernel
theorem dL_law_1309 : decode cL_law 1309 = .ok (.iconst 2, 1) := by decide +kernel
theorem dL_law_1310 : decode cL_law 1310 = .ok (.iadd, 1) := by decide +kernel
theorem dL_law_1311 : decode cL_law 1311 = .ok (.iaload, 1) := by decide +kernel
theorem dL_law_1312 : decode cL_law 1312 = .ok (.aload_n 0, 1) := by decide +kernel
theorem dL_law_1313 : decode cL_law 1313 = .ok (.iload 4, 2) := by decide +kernel
theorem dL_law_1315 : decode cL_law 1315 = .ok (.iconst 3, 1) := by decide +kernel
theorem dL_law_1316 : decode cL_law 1316 = .ok (.iadd, 1) := by decide +kernel
theorem dL_law_1317 : decode cL_law 1317 = .ok (.iaload, 1) := by decide +kernel
theorem dL_law_1318 : decode cL_law 1318 = .ok (.invokevirtual 160, 3) := by decide +kernel
theorem dL_law_1321 : decode cL_law 1321 = .ok (.aload_n 2, 1) := by decide +kernel
theorem dL_law_1322 : decode cL_law 1322 = .ok (.aload_n 0, 1) := by decide +kernel
theorem dL_law_1323 : decode cL_law 1323 = .ok (.iload 4, 2) := by decide +kernel
theorem dL_law_1325 : decode cL_law 1325 = .ok (.iconst 1, 1) := by decide +kernel
theorem dL_law_1326 : decode cL_law 1326 = .ok (.iadd, 1) := by decide +kernel
theorem dL_law_1327 : decode cL_law 1327 = .ok (.iaload, 1) := by decide +kernel
theorem dL_law_1328 : decode cL_law 1328 = .ok (.aload_n 0, 1) := by decide +kernel
theorem dL_law_1329 : decode cL_law 1329 = .ok (.iload 4, 2) := by decide +kernel
theorem dL_law_1331 : decode cL_law 1331 = .ok (.iconst 2, 1) := by decide +kernel
theorem dL_law_1332 : decode cL_law 1332 = .ok (.iadd, 1) := by decide +kernel
theorem dL_law_1333 : decode cL_law 1333 = .ok (.iaload, 1) := by decide +kernel
theorem dL_law_1334 : decode cL_law 1334 = .ok (.aload_n 0, 1) := by decide +kernel
theorem dL_law_1335 : decode cL_law 1335 = .ok (.iload 4, 2) := by decide +kernel
theorem dL_law_1337 : decode cL_law 1337 = .ok (.iconst 3, 1) := by decide +kernel
theorem dL_law_1338 : decode cL_law 1338 = .ok (.iadd, 1) := by decide +kernel
theorem dL_law_1339 : decode cL_law 1339 = .ok (.iaload, 1) := by decide +kernel
theorem dL_law_1340 : decode cL_law 1340 = .ok (.invokevirtual 163, 3) := by decide +kernel
theorem dL_law_1343 : decode cL_law 1343 = .ok (.if_icmp .eq 195, 3) := by decide +kernel
theorem dL_law_1346 : decode cL_law 1346 = .ok (.iconst 0, 1) := by decide +kernel
theorem dL_law_1347 : decode cL_law 1347 = .ok (.ireturn, 1) := by decide +kernel
theorem dL_law_1348 : decode cL_law 1348 = .ok (.aload_n 1, 1) := by decide +kernel
theorem dL_law_1349 : decode cL_law 1349 = .ok (.aload_n 0, 1) := by decide +kernel
theorem dL_law_1350 : decode cL_law 1350 = .ok (.iload 4, 2) := by decide +kernel
theorem dL_law_1352 : decode cL_law 1352 = .ok (.iconst 1, 1) := by decide +kernel
theorem dL_law_1353 : decode cL_law 1353 = .ok (.iadd, 1) := by decide +kernel
theorem dL_law_1354 : decode cL_law 1354 = .ok (.iaload, 1) := by decide +kernel
theorem dL_law_1355 : decode cL_law 1355 = .ok (.aload_n 0, 1) := by decide +kernel
theorem dL_law_1356 : decode cL_law 1356 = .ok (.iload 4, 2) := by decide +kernel
theorem dL_law_1358 : decode cL_law 1358 = .ok (.iconst 2, 1) := by decide +kernel
theorem dL_law_1359 : decode cL_law 1359 = .ok (.iadd, 1) := by decide +kernel
theorem dL_law_1360 : decode cL_law 1360 = .ok (.iaload, 1) := by decide +kernel
theorem dL_law_1361 : decode cL_law 1361 = .ok (.aload_n 3, 1) := by decide +kernel
theorem dL_law_1362 : decode cL_law 1362 = .ok (.invokestatic 164, 3) := by decide +kernel
theorem dL_law_1365 : decode cL_law 1365 = .ok (.istore 5, 2) := by decide +kernel
theorem dL_law_1367 : decode cL_law 1367 = .ok (.aload_n 2, 1) := by decide +kernel
theorem dL_law_1368 : decode cL_law 1368 = .ok (.aload_n 0, 1) := by decide +kernel
theorem dL_law_1369 : decode cL_law 1369 = .ok (.iload 4, 2) := by decide +kernel
theorem dL_law_1371 : decode cL_law 1371 = .ok (.iconst 1, 1) := by decide +kernel
theorem dL_law_1372 : decode cL_law 1372 = .ok (.iadd, 1) := by decide +kernel
theorem dL_law_1373 : decode cL_law 1373 = .ok (.iaload, 1) := by decide +kernel
theorem dL_law_1374 : decode cL_law 1374 = .ok (.aload_n 0, 1) := by decide +kernel
theorem dL_law_1375 : decode cL_law 1375 = .ok (.iload 4, 2) := by decide +kernel
theorem dL_law_1377 : decode cL_law 1377 = .ok (.iconst 2, 1) := by decide +kernel
theorem dL_law_1378 : decode cL_law 1378 = .ok (.iadd, 1) := by decide +kernel
theorem dL_law_1379 : decode cL_law 1379 = .ok (.iaload, 1) := by decide +kernel
theorem dL_law_1380 : decode cL_law 1380 = .ok (.invokevirtual 169, 3) := by decide +kernel
theorem dL_law_1383 : decode cL_law 1383 = .ok (.lstore 6, 2) := by decide +kernel
theorem dL_law_1385 : decode cL_law 1385 = .ok (.aload_n 2, 1) := by decide +kernel
theorem dL_law_1386 : decode cL_law 1386 = .ok (.invokevirtual 170, 3) := by decide +kernel
theorem dL_law_1389 : decode cL_law 1389 = .ok (.iload 5, 2) := by decide +kernel
theorem dL_law_1391 : decode cL_law 1391 = .ok (.if_icmp .eq 5, 3) := by decide +kernel
theorem dL_law_1394 : decode cL_law 1394 = .ok (.iconst 0, 1) := by decide +kernel
theorem dL_law_1395 : decode cL_law 1395 = .ok (.ireturn, 1) := by decide +kernel
theorem dL_law_1396 : decode cL_law 1396 = .ok (.iload 5, 2) := by decide +kernel
theorem dL_law_1398 : decode cL_law 1398 = .ok (.ifCond .ne 14, 3) := by decide +kernel
theorem dL_law_1401 : decode cL_law 1401 = .ok (.aload_n 3, 1) := by decide +kernel
theorem dL_law_1402 : decode cL_law 1402 = .ok (.iconst 0, 1) := by decide +kernel
theorem dL_law_1403 : decode cL_law 1403 = .ok (.laload, 1) := by decide +kernel
theorem dL_law_1404 : decode cL_law 1404 = .ok (.lload 6, 2) := by decide +kernel
theorem dL_law_1406 : decode cL_law 1406 = .ok (.lcmp, 1) := by decide +kernel
theorem dL_law_1407 : decode cL_law 1407 = .ok (.ifCond .eq 5, 3) := by decide +kernel
theorem dL_law_1410 : decode cL_law 1410 = .ok (.iconst 0, 1) := by decide +kernel
theorem dL_law_1411 : decode cL_law 1411 = .ok (.ireturn, 1) := by decide +kernel
theorem dL_law_1412 : decode cL_law 1412 = .ok (.goto 126, 3) := by decide +kernel
theorem dL_law_1415 : decode cL_law 1415 = .ok (.aload_n 1, 1) := by decide +kernel
theorem dL_law_1416 : decode cL_law 1416 = .ok (.aload_n 0, 1) := by decide +kernel
theorem dL_law_1417 : decode cL_law 1417 = .ok (.iload 4, 2) := by decide +kernel
theorem dL_law_1419 : decode cL_law 1419 = .ok (.iconst 1, 1) := by decide +kernel
theorem dL_law_1420 : decode cL_law 1420 = .ok (.iadd, 1) := by decide +kernel
theorem dL_law_1421 : decode cL_law 1421 = .ok (.iaload, 1) := by decide +kernel
theorem dL_law_1422 : decode cL_law 1422 = .ok (.aload_n 0, 1) := by decide +kernel
theorem dL_law_1423 : decode cL_law 1423 = .ok (.iload 4, 2) := by decide +kernel
theorem dL_law_1425 : decode cL_law 1425 = .ok (.iconst 2, 1) := by decide +kernel
theorem dL_law_1426 : decode cL_law 1426 = .ok (.iadd, 1) := by decide +kernel
theorem dL_law_1427 : decode cL_law 1427 = .ok (.iaload, 1) := by decide +kernel
theorem dL_law_1428 : decode cL_law 1428 = .ok (.aload_n 0, 1) := by decide +kernel
theorem dL_law_1429 : decode cL_law 1429 = .ok (.iload 4, 2) := by decide +kernel
theorem dL_law_1431 : decode cL_law 1431 = .ok (.iconst 3, 1) := by decide +kernel
theorem dL_law_1432 : decode cL_law 1432 = .ok (.iadd, 1) := by decide +kernel
theorem dL_law_1433 : decode cL_law 1433 = .ok (.iaload, 1) := by decide +kernel
theorem dL_law_1434 : decode cL_law 1434 = .ok (.aload_n 0, 1) := by decide +kernel
theorem dL_law_1435 : decode cL_law 1435 = .ok (.iload 4, 2) := by decide +kernel
theorem dL_law_1437 : decode cL_law 1437 = .ok (.iconst 4, 1) := by decide +kernel
theorem dL_law_1438 : decode cL_law 1438 = .ok (.iadd, 1) := by decide +kernel
theorem dL_law_1439 : decode cL_law 1439 = .ok (.iaload, 1) := by decide +kernel
theorem dL_law_1440 : decode cL_law 1440 = .ok (.aload_n 0, 1) := by decide +kernel
theorem dL_law_1441 : decode cL_law 1441 = .ok (.iload 4, 2) := by decide +kernel
theorem dL_law_1443 : decode cL_law 1443 = .ok (.iconst 5, 1) := by decide +kernel
theorem dL_law_1444 : decode cL_law 1444 = .ok (.iadd, 1) := by decide +kernel
theorem dL_law_1445 : decode cL_law 1445 = .ok (.iaload, 1) := by decide +kernel
theorem dL_law_1446 : decode cL_law 1446 = .ok (.invokevirtual 173, 3) := by decide +kernel
theorem dL_law_1449 : decode cL_law 1449 = .ok (.aload_n 2, 1) := by decide +kernel
theorem dL_law_1450 : decode cL_law 1450 = .ok (.aload_n 0, 1) := by decide +kernel
theorem dL_law_1451 : decode cL_law 1451 = .ok (.iload 4, 2) := by decide +kernel
theorem dL_law_1453 : decode cL_law 1453 = .ok (.iconst 1, 1) := by decide +kernel
theorem dL_law_1454 : decode cL_law 1454 = .ok (.iadd, 1) := by decide +kernel
theorem dL_law_1455 : decode cL_law 1455 = .ok (.iaload, 1) := by decide +kernel
theorem dL_law_1456 : decode cL_law 1456 = .ok (.aload_n 0, 1) := by decide +kernel
theorem dL_law_1457 : decode cL_law 1457 = .ok (.iload 4, 2) := by decide +kernel
theorem dL_law_1459 : decode cL_law 1459 = .ok (.iconst 2, 1) := by decide +kernel
theorem dL_law_1460 : decode cL_law 1460 = .ok (.iadd, 1) := by decide +kernel
theorem dL_law_1461 : decode cL_law 1461 = .ok (.iaload, 1) := by decide +kernel
theorem dL_law_1462 : decode cL_law 1462 = .ok (.aload_n 0, 1) := by decide +kernel
theorem dL_law_1463 : decode cL_law 1463 = .ok (.iload 4, 2) := by decide +kernel
theorem dL_law_1465 : decode cL_law 1465 = .ok (.iconst 3, 1) := by decide +kernel
theorem dL_law_1466 : decode cL_law 1466 = .ok (.iadd, 1) := by decide +kernel
theorem dL_law_1467 : decode cL_law 1467 = .ok (.iaload, 1) := by decide +kernel
theorem dL_law_1468 : decode cL_law 1468 = .ok (.aload_n 0, 1) := by decide +kernel
theorem dL_law_1469 : decode cL_law 1469 = .ok (.iload 4, 2) := by decide +kernel
theorem dL_law_1471 : decode cL_law 1471 = .ok (.iconst 4, 1) := by decide +kernel
theorem dL_law_1472 : decode cL_law 1472 = .ok (.iadd, 1) := by decide +kernel
theorem dL_law_1473 : decode cL_law 1473 = .ok (.iaload, 1) := by decide +kernel
theorem dL_law_1474 : decode cL_law 1474 = .ok (.aload_n 0, 1) := by decide +kernel
theorem dL_law_1475 : decode cL_law 1475 = .ok (.iload 4, 2) := by decide +kernel
theorem dL_law_1477 : decode cL_law 1477 = .ok (.iconst 5, 1) := by decide +kernel
theorem dL_law_1478 : decode cL_law 1478 = .ok (.iadd, 1) := by decide +kernel
theorem dL_law_1479 : decode cL_law 1479 = .ok (.iaload, 1) := by decide +kernel
theorem dL_law_1480 : decode cL_law 1480 = .ok (.invokevirtual 177, 3) := by decide +kernel
theorem dL_law_1483 : decode cL_law 1483 = .ok (.if_icmp .eq 55, 3) := by decide +kernel
theorem dL_law_1486 : decode cL_law 1486 = .ok (.iconst 0, 1) := by decide +kernel
theorem dL_law_1487 : decode cL_law 1487 = .ok (.ireturn, 1) := by decide +kernel
theorem dL_law_1488 : decode cL_law 1488 = .ok (.aload_n 1, 1) := by decide +kernel
theorem dL_law_1489 : decode cL_law 1489 = .ok (.aload_n 0, 1) := by decide +kernel
theorem dL_law_1490 : decode cL_law 1490 = .ok (.iload 4, 2) := by decide +kernel
theorem dL_law_1492 : decode cL_law 1492 = .ok (.iconst 1, 1) := by decide +kernel
theorem dL_law_1493 : decode cL_law 1493 = .ok (.iadd, 1) := by decide +kernel
theorem dL_law_1494 : decode cL_law 1494 = .ok (.iaload, 1) := by decide +kernel
theorem dL_law_1495 : decode cL_law 1495 = .ok (.invokevirtual 178, 3) := by decide +kernel
theorem dL_law_1498 : decode cL_law 1498 = .ok (.aload_n 2, 1) := by decide +kernel
theorem dL_law_1499 : decode cL_law 1499 = .ok (.aload_n 0, 1) := by decide +kernel
theorem dL_law_1500 : decode cL_law 1500 = .ok (.iload 4, 2) := by decide +kernel
theorem dL_law_1502 : decode cL_law 1502 = .ok (.iconst 1, 1) := by decide +kernel
theorem dL_law_1503 : decode cL_law 1503 = .ok (.iadd, 1) := by decide +kernel
theorem dL_law_1504 : decode cL_law 1504 = .ok (.iaload, 1) := by decide +kernel
theorem dL_law_1505 : decode cL_law 1505 = .ok (.invokevirtual 181, 3) := by decide +kernel
theorem dL_law_1508 : decode cL_law 1508 = .ok (.if_icmp .eq 30, 3) := by decide +kernel
theorem dL_law_1511 : decode cL_law 1511 = .ok (.iconst 0, 1) := by decide +kernel
theorem dL_law_1512 : decode cL_law 1512 = .ok (.ireturn, 1) := by decide +kernel
theorem dL_law_1513 : decode cL_law 1513 = .ok (.aload_n 1, 1) := by decide +kernel
theorem dL_law_1514 : decode cL_law 1514 = .ok (.aload_n 0, 1) := by decide +kernel
theorem dL_law_1515 : decode cL_law 1515 = .ok (.iload 4, 2) := by decide +kernel
theorem dL_law_1517 : decode cL_law 1517 = .ok (.iconst 1, 1) := by decide +kernel
theorem dL_law_1518 : decode cL_law 1518 = .ok (.iadd, 1) := by decide +kernel
theorem dL_law_1519 : decode cL_law 1519 = .ok (.iaload, 1) := by decide +kernel
theorem dL_law_1520 : decode cL_law 1520 = .ok (.invokevirtual 182, 3) := by decide +kernel
theorem dL_law_1523 : decode cL_law 1523 = .ok (.aload_n 2, 1) := by decide +kernel
theorem dL_law_1524 : decode cL_law 1524 = .ok (.aload_n 0, 1) := by decide +kernel
theorem dL_law_1525 : decode cL_law 1525 = .ok (.iload 4, 2) := by decide +kernel
theorem dL_law_1527 : decode cL_law 1527 = .ok (.iconst 1, 1) := by decide +kernel
theorem dL_law_1528 : decode cL_law 1528 = .ok (.iadd, 1) := by decide +kernel
theorem dL_law_1529 : decode cL_law 1529 = .ok (.iaload, 1) := by decide +kernel
theorem dL_law_1530 : decode cL_law 1530 = .ok (.invokevirtual 185, 3) := by decide +kernel
theorem dL_law_1533 : decode cL_law 1533 = .ok (.if_icmp .eq 5, 3) := by decide +kernel
theorem dL_law_1536 : decode cL_law 1536 = .ok (.iconst 0, 1) := by decide +kernel
theorem dL_law_1537 : decode cL_law 1537 = .ok (.ireturn, 1) := by decide +kernel
theorem dL_law_1538 : decode cL_law 1538 = .ok (.iinc 4 6, 3) := by decide +kernel
theorem dL_law_1541 : decode cL_law 1541 = .ok (.goto (-1518), 3) := by decide +kernel
theorem dL_law_1544 : decode cL_law 1544 = .ok (.iconst 1, 1) := by decide +kernel
theorem dL_law_1545 : decode cL_law 1545 = .ok (.ireturn, 1) := by decide +kernel
end
section
/-! the small machine's linked tables (by program: wip/whole/gen_tab.py) -/
abbrev OC : Type := Nat × List Value
abbrev Hp : Type := (Nat → Option OC) × Nat × Nat
abbrev Mth : Type := Nat × MethodName × ByteArray × Nat × Option FieldType
def lw_good : List Cond := lw_tbl.filter goodWord
def am_R (o : Nat) : String := match o with
  | 0 => RX0
  | 1 => RX1
  | 2 => RX2
  | 3 => RX3
  | 4 => RX4
  | 5 => RX5
  | 6 => RX6
  | 7 => RX7
  | 8 => RX8
  | 9 => RX9
  | 10 => RX10
  | 11 => RX11
  | 12 => RX12
  | 13 => RL
  | 14 => RJ6
  | 15 => RJ7
  | _ => ""
def mX11_init : Mth := (11, yX11_init, cX11_init, 3, none)
def mX1_init : Mth := (1, yX1_init, cX1_init, 3, none)
def mX7_init : Mth := (7, yX7_init, cX7_init, 3, none)
def mX5_init : Mth := (5, yX5_init, cX5_init, 2, none)
def mX11_bath : Mth := (11, yX11_bath, cX11_bath, 7, (some .int))
def mX11_rowOn : Mth := (11, yX11_rowOn, cX11_rowOn, 2, (some (.object "HandUnderTheChin$Row")))
def mX11_isShelf : Mth := (11, yX11_isShelf, cX11_isShelf, 1, (some .boolean))
def mX11_within : Mth := (11, yX11_within, cX11_within, 3, (some .boolean))
def mX11_whyNot : Mth := (11, yX11_whyNot, cX11_whyNot, 2, (some .int))
def mX11_isEmpty : Mth := (11, yX11_isEmpty, cX11_isEmpty, 2, (some .boolean))
def mX11_kindOn : Mth := (11, yX11_kindOn, cX11_kindOn, 2, (some (.object "HandUnderTheChin$Child")))
def mX8_misshapenAt : Mth := (8, yX8_misshapenAt, cX8_misshapenAt, 4, (some .int))
def mX8_digitsBehind : Mth := (8, yX8_digitsBehind, cX8_digitsBehind, 1, (some .int))
def mX11_fromNow : Mth := (11, yX11_fromNow, cX11_fromNow, 1, (some (.object "HandUnderTheChin$Rail")))
def mX7_setTo : Mth := (7, yX7_setTo, cX7_setTo, 3, none)
def mX5_setTo : Mth := (5, yX5_setTo, cX5_setTo, 2, none)
def mX8_size : Mth := (8, yX8_size, cX8_size, 1, (some .int))
def mX7_obeys : Mth := (7, yX7_obeys, cX7_obeys, 5, (some .boolean))
def mX8_number : Mth := (8, yX8_number, cX8_number, 5, (some .int))
def mX8_at : Mth := (8, yX8_at, cX8_at, 2, (some .int))
def mX8_has : Mth := (8, yX8_has, cX8_has, 2, (some .boolean))
def mX7_obeysCome : Mth := (7, yX7_obeysCome, cX7_obeysCome, 4, (some .boolean))
def mX7_hasRoom : Mth := (7, yX7_hasRoom, cX7_hasRoom, 1, (some .boolean))
def mX1_of : Mth := (1, yX1_of, cX1_of, 2, (some (.object "HandUnderTheChin$Child")))
def mX0_init : Mth := (0, yX0_init, cX0_init, 3, none)
def mX9_init : Mth := (9, yX9_init, cX9_init, 3, none)
def mX10_init : Mth := (10, yX10_init, cX10_init, 3, none)
def mX6_init : Mth := (6, yX6_init, cX6_init, 2, none)
def mX4_init : Mth := (4, yX4_init, cX4_init, 2, none)
def mX2_init : Mth := (2, yX2_init, cX2_init, 3, none)
def mX3_init : Mth := (3, yX3_init, cX3_init, 3, none)
def mX7_add : Mth := (7, yX7_add, cX7_add, 4, none)
def mX7_obeysMinute : Mth := (7, yX7_obeysMinute, cX7_obeysMinute, 3, (some .boolean))
def mX7_canTake : Mth := (7, yX7_canTake, cX7_canTake, 3, (some .boolean))
def mX7_has : Mth := (7, yX7_has, cX7_has, 2, (some .boolean))
def mX5_swims : Mth := (5, yX5_swims, cX5_swims, 1, (some .boolean))
def mX7_take : Mth := (7, yX7_take, cX7_take, 6, (some .boolean))
def mX7_shownTo : Mth := (7, yX7_shownTo, cX7_shownTo, 4, (some .int))
def mX5_gain : Mth := (5, yX5_gain, cX5_gain, 2, none)
def mX5_meets : Mth := (5, yX5_meets, cX5_meets, 3, (some .boolean))
def mX5_isReady : Mth := (5, yX5_isReady, cX5_isReady, 1, (some .boolean))
def mX1_needsAt : Mth := (1, yX1_needsAt, cX1_needsAt, 2, (some .int))
def mX5_stepsByFinger : Mth := (5, yX5_stepsByFinger, cX5_stepsByFinger, 1, (some .boolean))
def mX5_trustByFinger : Mth := (5, yX5_trustByFinger, cX5_trustByFinger, 1, (some .int))
def mX7_passOn : Mth := (7, yX7_passOn, cX7_passOn, 3, none)
def mX5_getsColder : Mth := (5, yX5_getsColder, cX5_getsColder, 1, none)
def mX7_pause : Mth := (7, yX7_pause, cX7_pause, 3, none)
def mX5_pauses : Mth := (5, yX5_pauses, cX5_pauses, 2, none)
def mX7_obeysChange : Mth := (7, yX7_obeysChange, cX7_obeysChange, 3, (some .boolean))
def mX7_hasTwo : Mth := (7, yX7_hasTwo, cX7_hasTwo, 3, (some .boolean))
def mX7_swap : Mth := (7, yX7_swap, cX7_swap, 3, none)
def mX7_obeysTrust : Mth := (7, yX7_obeysTrust, cX7_obeysTrust, 3, (some .boolean))
def mX7_obeysStep : Mth := (7, yX7_obeysStep, cX7_obeysStep, 3, (some .boolean))
def mX11_child : Mth := (11, yX11_child, cX11_child, 4, (some .int))
def mX5_needs : Mth := (5, yX5_needs, cX5_needs, 1, (some .int))
def mX11_comes : Mth := (11, yX11_comes, cX11_comes, 4, (some .int))
def mX11_feels : Mth := (11, yX11_feels, cX11_feels, 6, (some .int))
def mX11_minute : Mth := (11, yX11_minute, cX11_minute, 3, (some .int))
def mX11_change : Mth := (11, yX11_change, cX11_change, 3, (some .int))
def mX11_rest : Mth := (11, yX11_rest, cX11_rest, 2, (some .int))
def mX7_allSteps : Mth := (7, yX7_allSteps, cX7_allSteps, 3, (some .int))
def mX11_ready : Mth := (11, yX11_ready, cX11_ready, 1, (some .int))
def mX7_readyBits : Mth := (7, yX7_readyBits, cX7_readyBits, 3, (some .int))
def mX11_alone : Mth := (11, yX11_alone, cX11_alone, 4, (some .int))
def mX11_fewestAlone : Mth := (11, yX11_fewestAlone, cX11_fewestAlone, 9, (some .int))
def mJ7_fill_53178 : Mth := (15, yJ7_fill_53178, cJ7_fill_53178, 4, none)
def mX11_stateOf : Mth := (11, yX11_stateOf, cX11_stateOf, 1, (some .int))
def mX11_firstWayAlone : Mth := (11, yX11_firstWayAlone, cX11_firstWayAlone, 4, (some .int))
def mX11_neverHeld : Mth := (11, yX11_neverHeld, cX11_neverHeld, 2, (some .int))
def mX11_mostSteps : Mth := (11, yX11_mostSteps, cX11_mostSteps, 4, (some .int))
def mX11_mostFrom : Mth := (11, yX11_mostFrom, cX11_mostFrom, 8, (some .int))
def mX7_anyCanStep : Mth := (7, yX7_anyCanStep, cX7_anyCanStep, 2, (some .boolean))
def mX11_firstMinuteTo : Mth := (11, yX11_firstMinuteTo, cX11_firstMinuteTo, 5, (some .int))
def mX11_byTurns : Mth := (11, yX11_byTurns, cX11_byTurns, 6, (some .int))
def mX7_takeTurn : Mth := (7, yX7_takeTurn, cX7_takeTurn, 4, (some .int))
def mX7_swimBits : Mth := (7, yX7_swimBits, cX7_swimBits, 3, (some .int))
def mJ6_bitCount_0f7a4 : Mth := (14, yJ6_bitCount_0f7a4, cJ6_bitCount_0f7a4, 1, (some .int))
def mX11_allSwim : Mth := (11, yX11_allSwim, cX11_allSwim, 3, (some .int))
def mX11_beside : Mth := (11, yX11_beside, cX11_beside, 2, (some .int))
def mX11_arrange : Mth := (11, yX11_arrange, cX11_arrange, 6, none)
def mX11_passesOf : Mth := (11, yX11_passesOf, cX11_passesOf, 2, (some .int))
def mX11_helps : Mth := (11, yX11_helps, cX11_helps, 6, (some .int))
def mX7_neighbours : Mth := (7, yX7_neighbours, cX7_neighbours, 2, (some .int))
def mX11_costs : Mth := (11, yX11_costs, cX11_costs, 4, (some .int))
def mX11_bands : Mth := (11, yX11_bands, cX11_bands, 8, (some .int))
def mX11_frights : Mth := (11, yX11_frights, cX11_frights, 11, (some .long))
def mX11_outcomes : Mth := (11, yX11_outcomes, cX11_outcomes, 9, (some .long))
def mX11_inLeastTerms : Mth := (11, yX11_inLeastTerms, cX11_inLeastTerms, 12, (some .long))
def mX11_was : Mth := (11, yX11_was, cX11_was, 8, (some .int))
def mX11_tellsHolding : Mth := (11, yX11_tellsHolding, cX11_tellsHolding, 4, (some .boolean))
def mX11_dare : Mth := (11, yX11_dare, cX11_dare, 5, (some .int))
def mX11_staysWith : Mth := (11, yX11_staysWith, cX11_staysWith, 3, (some .boolean))
def mX11_daring : Mth := (11, yX11_daring, cX11_daring, 3, (some .int))
def mX11_group : Mth := (11, yX11_group, cX11_group, 5, (some .int))
def mX7_holdsOf : Mth := (7, yX7_holdsOf, cX7_holdsOf, 4, (some .int))
def mX11_forget : Mth := (11, yX11_forget, cX11_forget, 3, (some .int))
def mX11_coldest : Mth := (11, yX11_coldest, cX11_coldest, 6, (some .int))
def mX11_last : Mth := (11, yX11_last, cX11_last, 3, (some .int))
def mX5_isBehind : Mth := (5, yX5_isBehind, cX5_isBehind, 2, (some .boolean))
def mX11_mean : Mth := (11, yX11_mean, cX11_mean, 2, (some .long))
def mX11_forged : Mth := (11, yX11_forged, cX11_forged, 7, (some .int))
def mX11_judge : Mth := (11, yX11_judge, cX11_judge, 6, (some .int))
def mX8_least : Mth := (8, yX8_least, cX8_least, 1, (some .int))
def mX11_weeks : Mth := (11, yX11_weeks, cX11_weeks, 12, (some .int))
def mX11_seedBehind : Mth := (11, yX11_seedBehind, cX11_seedBehind, 1, (some .int))
def mX11_below : Mth := (11, yX11_below, cX11_below, 2, (some .int))
def mX11_image : Mth := (11, yX11_image, cX11_image, 1, (some .int))
def mX11_restore : Mth := (11, yX11_restore, cX11_restore, 1, (some .int))
def mX11_count : Mth := (11, yX11_count, cX11_count, 2, (some .int))
def mX7_allTrust : Mth := (7, yX7_allTrust, cX7_allTrust, 3, (some .int))
def mX7_allCold : Mth := (7, yX7_allCold, cX7_allCold, 3, (some .int))
def mX11_keep : Mth := (11, yX11_keep, cX11_keep, 5, (some .int))
def mX11_row : Mth := (11, yX11_row, cX11_row, 4, (some .int))
def mX8_init : Mth := (8, yX8_init, cX8_init, 3, none)
def mX11_put : Mth := (11, yX11_put, cX11_put, 5, (some .int))
def mX8_set : Mth := (8, yX8_set, cX8_set, 3, none)
def mX11_copy : Mth := (11, yX11_copy, cX11_copy, 8, (some .int))
def mX8_hasPart : Mth := (8, yX8_hasPart, cX8_hasPart, 3, (some .boolean))
def mX11_cost : Mth := (11, yX11_cost, cX11_cost, 3, (some .int))
def mX11_toss : Mth := (11, yX11_toss, cX11_toss, 4, (some .int))
def mX0_fail : Mth := (0, yX0_fail, cX0_fail, 1, none)
def mX9_fail : Mth := (9, yX9_fail, cX9_fail, 1, none)
def mX3_fail : Mth := (3, yX3_fail, cX3_fail, 1, none)
def mX10_fail : Mth := (10, yX10_fail, cX10_fail, 1, none)
def mX1_fail : Mth := (1, yX1_fail, cX1_fail, 1, none)
def mL_element : Mth := (13, yL_element, cL_element, 5, (some .int))
def mX11_element : Mth := (11, yX11_element, cX11_element, 4, (some .long))
def mX12_init : Mth := (12, yX12_init, cX12_init, 1, none)
def mX12_thrown : Mth := (12, yX12_thrown, cX12_thrown, 1, (some .int))
def mX12_bath : Mth := (12, yX12_bath, cX12_bath, 4, (some .int))
def mX12_wrongRow : Mth := (12, yX12_wrongRow, cX12_wrongRow, 2, (some .int))
def mX12_in : Mth := (12, yX12_in, cX12_in, 6, (some .boolean))
def mX12_readStatement : Mth := (12, yX12_readStatement, cX12_readStatement, 3, none)
def mX12_here : Mth := (12, yX12_here, cX12_here, 1, (some .int))
def mX12_isLetter : Mth := (12, yX12_isLetter, cX12_isLetter, 1, (some .boolean))
def mX12_readNumbers : Mth := (12, yX12_readNumbers, cX12_readNumbers, 3, none)
def mX12_readDigits : Mth := (12, yX12_readDigits, cX12_readDigits, 4, (some .int))
def mX12_open : Mth := (12, yX12_open, cX12_open, 1, none)
def mX12_carryAll : Mth := (12, yX12_carryAll, cX12_carryAll, 4, none)
def mX12_carry : Mth := (12, yX12_carry, cX12_carry, 2, (some .int))
def mX12_comesTold : Mth := (12, yX12_comesTold, cX12_comesTold, 5, (some .boolean))
def mX12_childComes : Mth := (12, yX12_childComes, cX12_childComes, 5, (some .boolean))
def mX12_minuteComes : Mth := (12, yX12_minuteComes, cX12_minuteComes, 4, (some .boolean))
def mX12_isChild : Mth := (12, yX12_isChild, cX12_isChild, 2, (some .boolean))
def mX12_goMinute : Mth := (12, yX12_goMinute, cX12_goMinute, 3, none)
def mX12_holdsOf : Mth := (12, yX12_holdsOf, cX12_holdsOf, 2, (some .int))
def mX12_holdsBy : Mth := (12, yX12_holdsBy, cX12_holdsBy, 2, (some .int))
def mX12_gains : Mth := (12, yX12_gains, cX12_gains, 3, none)
def mX12_held : Mth := (12, yX12_held, cX12_held, 2, (some .int))
def mX12_needsOf : Mth := (12, yX12_needsOf, cX12_needsOf, 2, (some .int))
def mX12_needsAt : Mth := (12, yX12_needsAt, cX12_needsAt, 3, (some .int))
def mX12_letGo : Mth := (12, yX12_letGo, cX12_letGo, 3, none)
def mX12_passesOf : Mth := (12, yX12_passesOf, cX12_passesOf, 2, (some .int))
def mX12_isReady : Mth := (12, yX12_isReady, cX12_isReady, 2, (some .boolean))
def mX12_frightOf : Mth := (12, yX12_frightOf, cX12_frightOf, 2, (some .int))
def mX12_show : Mth := (12, yX12_show, cX12_show, 6, none)
def mX12_colder : Mth := (12, yX12_colder, cX12_colder, 3, none)
def mX12_bearsOf : Mth := (12, yX12_bearsOf, cX12_bearsOf, 2, (some .int))
def mX12_goBreak : Mth := (12, yX12_goBreak, cX12_goBreak, 3, none)
def mX12_swapAll : Mth := (12, yX12_swapAll, cX12_swapAll, 3, none)
def mX12_swapNumbers : Mth := (12, yX12_swapNumbers, cX12_swapNumbers, 5, none)
def mX12_close : Mth := (12, yX12_close, cX12_close, 1, none)
def mX12_image : Mth := (12, yX12_image, cX12_image, 1, (some .int))
def mX12_restore : Mth := (12, yX12_restore, cX12_restore, 1, (some .int))
def mX12_child : Mth := (12, yX12_child, cX12_child, 3, (some .int))
def mX12_comes : Mth := (12, yX12_comes, cX12_comes, 4, (some .int))
def mX12_wrongKept : Mth := (12, yX12_wrongKept, cX12_wrongKept, 2, (some .int))
def mX12_feels : Mth := (12, yX12_feels, cX12_feels, 5, (some .int))
def mX12_minute : Mth := (12, yX12_minute, cX12_minute, 3, (some .int))
def mX12_change : Mth := (12, yX12_change, cX12_change, 3, (some .int))
def mX12_rest : Mth := (12, yX12_rest, cX12_rest, 2, (some .int))
def mX12_allSteps : Mth := (12, yX12_allSteps, cX12_allSteps, 3, (some .int))
def mX12_ready : Mth := (12, yX12_ready, cX12_ready, 1, (some .int))
def mX12_readyBits : Mth := (12, yX12_readyBits, cX12_readyBits, 3, (some .int))
def mX12_alone : Mth := (12, yX12_alone, cX12_alone, 5, (some .int))
def mX12_layFewest : Mth := (12, yX12_layFewest, cX12_layFewest, 7, none)
def mX12_behindWay : Mth := (12, yX12_behindWay, cX12_behindWay, 6, (some .int))
def mX12_aloneFrom : Mth := (12, yX12_aloneFrom, cX12_aloneFrom, 4, (some .int))
def mX12_stateOf : Mth := (12, yX12_stateOf, cX12_stateOf, 2, (some .int))
def mX12_neverHeld : Mth := (12, yX12_neverHeld, cX12_neverHeld, 2, (some .int))
def mX12_mostSteps : Mth := (12, yX12_mostSteps, cX12_mostSteps, 3, (some .int))
def mX12_layMost : Mth := (12, yX12_layMost, cX12_layMost, 4, none)
def mX12_keepStage : Mth := (12, yX12_keepStage, cX12_keepStage, 3, none)
def mX12_nextChoice : Mth := (12, yX12_nextChoice, cX12_nextChoice, 3, (some .int))
def mX12_toStage : Mth := (12, yX12_toStage, cX12_toStage, 3, none)
def mX12_byTurns : Mth := (12, yX12_byTurns, cX12_byTurns, 5, (some .int))
def mX12_nextTurn : Mth := (12, yX12_nextTurn, cX12_nextTurn, 4, (some .int))
def mX12_swimBits : Mth := (12, yX12_swimBits, cX12_swimBits, 3, (some .int))
def mX12_onesOf : Mth := (12, yX12_onesOf, cX12_onesOf, 3, (some .int))
def mX12_allSwim : Mth := (12, yX12_allSwim, cX12_allSwim, 3, (some .int))
def mX12_beside : Mth := (12, yX12_beside, cX12_beside, 8, (some .int))
def mX12_ordersOf : Mth := (12, yX12_ordersOf, cX12_ordersOf, 3, (some .int))
def mX12_layOrder : Mth := (12, yX12_layOrder, cX12_layOrder, 9, none)
def mX12_hasBit : Mth := (12, yX12_hasBit, cX12_hasBit, 2, (some .boolean))
def mX12_helps : Mth := (12, yX12_helps, cX12_helps, 6, (some .int))
def mX12_costs : Mth := (12, yX12_costs, cX12_costs, 4, (some .int))
def mX12_bands : Mth := (12, yX12_bands, cX12_bands, 6, (some .int))
def mX12_frights : Mth := (12, yX12_frights, cX12_frights, 17, (some .long))
def mX12_partOf : Mth := (12, yX12_partOf, cX12_partOf, 7, (some .long))
def mX12_divisor : Mth := (12, yX12_divisor, cX12_divisor, 10, (some .long))
def mX12_was : Mth := (12, yX12_was, cX12_was, 10, (some .int))
def mX12_dare : Mth := (12, yX12_dare, cX12_dare, 7, (some .int))
def mX12_daresOf : Mth := (12, yX12_daresOf, cX12_daresOf, 5, (some .int))
def mX12_group : Mth := (12, yX12_group, cX12_group, 7, (some .int))
def mX12_forget : Mth := (12, yX12_forget, cX12_forget, 3, (some .int))
def mX12_coldest : Mth := (12, yX12_coldest, cX12_coldest, 5, (some .int))
def mX12_last : Mth := (12, yX12_last, cX12_last, 4, (some .int))
def mX12_mean : Mth := (12, yX12_mean, cX12_mean, 2, (some .long))
def mX12_forged : Mth := (12, yX12_forged, cX12_forged, 10, (some .int))
def mX12_judge : Mth := (12, yX12_judge, cX12_judge, 8, (some .int))
def mX12_skipped : Mth := (12, yX12_skipped, cX12_skipped, 2, (some .long))
def mX12_weeks : Mth := (12, yX12_weeks, cX12_weeks, 11, (some .int))
def mX12_drawBelow : Mth := (12, yX12_drawBelow, cX12_drawBelow, 2, (some .int))
def mX12_count : Mth := (12, yX12_count, cX12_count, 4, (some .int))
def mX12_keep : Mth := (12, yX12_keep, cX12_keep, 5, (some .int))
def mX12_row : Mth := (12, yX12_row, cX12_row, 5, (some .int))
def mX12_put : Mth := (12, yX12_put, cX12_put, 5, (some .int))
def mX12_narrowed : Mth := (12, yX12_narrowed, cX12_narrowed, 2, (some .long))
def mX12_element : Mth := (12, yX12_element, cX12_element, 4, (some .long))
def mX12_copy : Mth := (12, yX12_copy, cX12_copy, 7, (some .int))
def mX12_cost : Mth := (12, yX12_cost, cX12_cost, 2, (some .int))
def mX12_costOf : Mth := (12, yX12_costOf, cX12_costOf, 3, (some .int))
def mX12_toss : Mth := (12, yX12_toss, cX12_toss, 4, (some .int))
def mL_law : Mth := (13, yL_law, cL_law, 8, some .boolean)
/-- fields: pool entry, place, classes, the class by which javac names it, places of the words -/
def am_fl (o : Nat) : List (Nat × Nat × List Nat × String × Nat × Nat) := match o with
  | 0 => [(31, 0, [0, 3, 4, 6], "HandUnderTheChin$Bold", 108, 109), (9, 1, [0, 3, 4, 6], "HandUnderTheChin$Bold", 113, 114), (15, 2, [0, 3, 4, 6], "HandUnderTheChin$Bold", 129, 130), (18, 3, [0, 3, 4, 6], "HandUnderTheChin$Bold", 143, 144), (21, 4, [0, 3, 4, 6], "HandUnderTheChin$Bold", 154, 155), (24, 6, [0, 3, 4, 6], "HandUnderTheChin$Bold", 180, 181), (27, 7, [0, 3, 4, 6], "HandUnderTheChin$Bold", 193, 194)]
  | 1 => [(15, 0, [0, 1, 2, 3, 4, 6, 9, 10], "HandUnderTheChin$Child", 107, 0), (19, 1, [0, 1, 2, 3, 4, 6, 9, 10], "HandUnderTheChin$Child", 127, 0), (22, 2, [0, 1, 2, 3, 4, 6, 9, 10], "HandUnderTheChin$Child", 137, 0), (25, 3, [0, 1, 2, 3, 4, 6, 9, 10], "HandUnderTheChin$Child", 149, 0), (28, 4, [0, 1, 2, 3, 4, 6, 9, 10], "HandUnderTheChin$Child", 156, 0), (31, 5, [0, 1, 2, 3, 4, 6, 9, 10], "HandUnderTheChin$Child", 165, 0), (34, 6, [0, 1, 2, 3, 4, 6, 9, 10], "HandUnderTheChin$Child", 182, 0), (9, 7, [0, 1, 2, 3, 4, 6, 9, 10], "HandUnderTheChin$Child", 186, 0)]
  | 2 => [(9, 1, [2], "HandUnderTheChin$Clinger", 123, 124), (15, 2, [2], "HandUnderTheChin$Clinger", 135, 136), (18, 3, [2], "HandUnderTheChin$Clinger", 147, 148), (21, 6, [2], "HandUnderTheChin$Clinger", 178, 179), (24, 7, [2], "HandUnderTheChin$Clinger", 191, 192)]
  | 3 => [(25, 0, [3], "HandUnderTheChin$Diver", 110, 111), (9, 1, [3], "HandUnderTheChin$Diver", 125, 126), (15, 4, [3], "HandUnderTheChin$Diver", 152, 153), (18, 6, [3], "HandUnderTheChin$Diver", 172, 173), (21, 7, [3], "HandUnderTheChin$Diver", 189, 190)]
  | 4 => [(7, 1, [4], "HandUnderTheChin$Laugher", 121, 122), (13, 5, [4], "HandUnderTheChin$Laugher", 161, 162), (16, 6, [4], "HandUnderTheChin$Laugher", 174, 175)]
  | 5 => [(44, 2, [0, 1, 2, 3, 4, 6, 9, 10], "HandUnderTheChin$Child", 139, 0), (61, 3, [0, 1, 2, 3, 4, 6, 9, 10], "HandUnderTheChin$Child", 151, 0), (64, 4, [0, 1, 2, 3, 4, 6, 9, 10], "HandUnderTheChin$Child", 160, 0), (9, 0, [5], "HandUnderTheChin$Pupil", 227, 0), (15, 1, [5], "HandUnderTheChin$Pupil", 230, 0), (19, 2, [5], "HandUnderTheChin$Pupil", 233, 0), (22, 3, [5], "HandUnderTheChin$Pupil", 236, 0)]
  | 6 => [(7, 1, [6], "HandUnderTheChin$Pusher", 119, 120), (13, 3, [6], "HandUnderTheChin$Pusher", 141, 142), (16, 5, [6], "HandUnderTheChin$Pusher", 163, 164), (19, 6, [6], "HandUnderTheChin$Pusher", 176, 177)]
  | 7 => [(154, 2, [0, 1, 2, 3, 4, 6, 9, 10], "HandUnderTheChin$Child", 140, 0), (77, 5, [0, 1, 2, 3, 4, 6, 9, 10], "HandUnderTheChin$Child", 169, 0), (50, 0, [5], "HandUnderTheChin$Pupil", 229, 0), (54, 1, [5], "HandUnderTheChin$Pupil", 232, 0), (57, 2, [5], "HandUnderTheChin$Pupil", 235, 0), (60, 3, [5], "HandUnderTheChin$Pupil", 238, 0), (11, 0, [7], "HandUnderTheChin$Rail", 248, 0), (20, 1, [7], "HandUnderTheChin$Rail", 250, 0), (24, 2, [7], "HandUnderTheChin$Rail", 251, 0), (32, 3, [7], "HandUnderTheChin$Rail", 253, 0), (35, 4, [7], "HandUnderTheChin$Rail", 255, 0)]
  | 8 => [(9, 0, [8], "HandUnderTheChin$Row", 871, 0), (21, 1, [8], "HandUnderTheChin$Row", 873, 0)]
  | 9 => [(9, 1, [9, 2], "HandUnderTheChin$Shy", 115, 116), (15, 2, [9, 2], "HandUnderTheChin$Shy", 131, 132), (18, 3, [9, 2], "HandUnderTheChin$Shy", 145, 146), (21, 4, [9, 2], "HandUnderTheChin$Shy", 157, 158), (24, 5, [9, 2], "HandUnderTheChin$Shy", 166, 167), (27, 6, [9, 2], "HandUnderTheChin$Shy", 183, 184), (30, 7, [9, 2], "HandUnderTheChin$Shy", 195, 196)]
  | 10 => [(9, 1, [10], "HandUnderTheChin$Twin", 117, 118), (15, 2, [10], "HandUnderTheChin$Twin", 133, 134), (18, 6, [10], "HandUnderTheChin$Twin", 170, 171), (21, 7, [10], "HandUnderTheChin$Twin", 187, 188)]
  | 11 => [(115, 0, [0, 1, 2, 3, 4, 6, 9, 10], "HandUnderTheChin$Child", 112, 0), (112, 1, [0, 1, 2, 3, 4, 6, 9, 10], "HandUnderTheChin$Child", 128, 0), (127, 2, [0, 1, 2, 3, 4, 6, 9, 10], "HandUnderTheChin$Child", 138, 0), (133, 3, [0, 1, 2, 3, 4, 6, 9, 10], "HandUnderTheChin$Child", 150, 0), (136, 4, [0, 1, 2, 3, 4, 6, 9, 10], "HandUnderTheChin$Child", 159, 0), (139, 5, [0, 1, 2, 3, 4, 6, 9, 10], "HandUnderTheChin$Child", 168, 0), (327, 6, [0, 1, 2, 3, 4, 6, 9, 10], "HandUnderTheChin$Child", 185, 0), (108, 0, [5], "HandUnderTheChin$Pupil", 228, 0), (118, 1, [5], "HandUnderTheChin$Pupil", 231, 0), (121, 2, [5], "HandUnderTheChin$Pupil", 234, 0), (124, 3, [5], "HandUnderTheChin$Pupil", 237, 0), (104, 0, [7], "HandUnderTheChin$Rail", 249, 0), (161, 2, [7], "HandUnderTheChin$Rail", 252, 0), (166, 3, [7], "HandUnderTheChin$Rail", 254, 0), (46, 0, [11], "HandUnderTheChin", 269, 0), (50, 1, [11], "HandUnderTheChin", 270, 0), (282, 2, [11], "HandUnderTheChin", 271, 0), (11, 3, [11], "HandUnderTheChin", 272, 0), (56, 4, [11], "HandUnderTheChin", 273, 0), (60, 5, [11], "HandUnderTheChin", 274, 0), (15, 6, [11], "HandUnderTheChin", 275, 0), (19, 7, [11], "HandUnderTheChin", 276, 0), (22, 8, [11], "HandUnderTheChin", 277, 0), (25, 9, [11], "HandUnderTheChin", 278, 0), (214, 10, [11], "HandUnderTheChin", 279, 0), (30, 11, [11], "HandUnderTheChin", 280, 0), (36, 12, [11], "HandUnderTheChin", 281, 0), (71, 0, [8], "HandUnderTheChin$Row", 872, 0), (318, 1, [8], "HandUnderTheChin$Row", 874, 0)]
  | 12 => [(81, 0, [12], "HandUnderTheChinModel", 1048, 0), (7, 1, [12], "HandUnderTheChinModel", 1049, 0), (13, 2, [12], "HandUnderTheChinModel", 1050, 0), (16, 3, [12], "HandUnderTheChinModel", 1051, 0), (19, 4, [12], "HandUnderTheChinModel", 1052, 0), (22, 5, [12], "HandUnderTheChinModel", 1053, 0), (135, 6, [12], "HandUnderTheChinModel", 1054, 0), (25, 7, [12], "HandUnderTheChinModel", 1055, 0), (28, 8, [12], "HandUnderTheChinModel", 1056, 0), (31, 9, [12], "HandUnderTheChinModel", 1057, 0), (34, 10, [12], "HandUnderTheChinModel", 1058, 0), (37, 11, [12], "HandUnderTheChinModel", 1059, 0), (40, 12, [12], "HandUnderTheChinModel", 1060, 0), (77, 13, [12], "HandUnderTheChinModel", 1061, 0), (141, 14, [12], "HandUnderTheChinModel", 1062, 0), (138, 15, [12], "HandUnderTheChinModel", 1063, 0), (144, 16, [12], "HandUnderTheChinModel", 1064, 0), (159, 17, [12], "HandUnderTheChinModel", 1065, 0), (44, 18, [12], "HandUnderTheChinModel", 1066, 0), (47, 19, [12], "HandUnderTheChinModel", 1067, 0), (50, 20, [12], "HandUnderTheChinModel", 1068, 0), (53, 21, [12], "HandUnderTheChinModel", 1069, 0), (56, 22, [12], "HandUnderTheChinModel", 1070, 0), (220, 23, [12], "HandUnderTheChinModel", 1071, 0), (210, 24, [12], "HandUnderTheChinModel", 1072, 0), (204, 25, [12], "HandUnderTheChinModel", 1073, 0), (207, 26, [12], "HandUnderTheChinModel", 1074, 0), (59, 27, [12], "HandUnderTheChinModel", 1075, 0), (62, 28, [12], "HandUnderTheChinModel", 1076, 0), (65, 29, [12], "HandUnderTheChinModel", 1077, 0), (68, 30, [12], "HandUnderTheChinModel", 1078, 0), (253, 31, [12], "HandUnderTheChinModel", 1079, 0), (256, 32, [12], "HandUnderTheChinModel", 1080, 0), (271, 33, [12], "HandUnderTheChinModel", 1081, 0), (71, 34, [12], "HandUnderTheChinModel", 1082, 0), (327, 35, [12], "HandUnderTheChinModel", 1083, 0), (74, 36, [12], "HandUnderTheChinModel", 1084, 0)]
  | _ => []
/-- calls: 0 virtual 1 special 2 static; pool entry, mode, how many values, classes of the receiver, the method, places of the words -/
def am_cl0_0 : List (Nat × Nat × Nat × Nat × List Nat × Mth × List Nat) := [(1, 3, 4, 2, [], mX1_init, [392, 104, 66, 105])]
def am_cl1_0 : List (Nat × Nat × Nat × Nat × List Nat × Mth × List Nat) := [(1, 3, 5, 1, [], mX11_within, [106, 94, 95]), (1, 39, 4, 2, [], mX0_init, [389, 390, 71, 391]), (1, 44, 4, 2, [], mX9_init, [404, 405, 72, 406]), (1, 47, 4, 2, [], mX10_init, [419, 420, 73, 421]), (1, 50, 4, 2, [], mX6_init, [434, 435, 74, 436]), (1, 53, 4, 2, [], mX4_init, [449, 450, 75, 451]), (1, 56, 4, 2, [], mX2_init, [464, 465, 76, 466]), (1, 59, 4, 2, [], mX3_init, [479, 480, 77, 481])]
def am_cl1_1 : List (Nat × Nat × Nat × Nat × List Nat × Mth × List Nat) := [(1, 60, 4, 2, [], mX1_init, [493, 104, 66, 105])]
def am_cl2_0 : List (Nat × Nat × Nat × Nat × List Nat × Mth × List Nat) := [(1, 3, 4, 2, [], mX9_init, [467, 405, 72, 406])]
def am_cl3_0 : List (Nat × Nat × Nat × Nat × List Nat × Mth × List Nat) := [(1, 3, 4, 2, [], mX0_init, [482, 390, 71, 391])]
def am_cl4_0 : List (Nat × Nat × Nat × Nat × List Nat × Mth × List Nat) := [(1, 1, 4, 2, [], mX0_init, [452, 390, 71, 391])]
def am_cl5_0 : List (Nat × Nat × Nat × Nat × List Nat × Mth × List Nat) := [(1, 3, 5, 1, [], mX11_within, [226, 94, 95]), (2, 35, 7, 2, [], mX11_within, [533, 534, 78, 535]), (2, 41, 6, 2, [], mX11_within, [536, 527, 78, 528]), (0, 51, 2, 1, [5], mX5_isReady, [541, 542, 543, 68, 544]), (0, 31, 2, 1, [5], mX5_swims, [545, 512, 513, 68, 514]), (0, 25, 3, 2, [0, 1, 2, 3, 4, 6, 9, 10], mX1_needsAt, [546, 549, 547, 66, 557, 550, 548, 551, 552, 553, 554, 555, 556]), (0, 54, 2, 1, [5], mX5_stepsByFinger, [558, 559, 560, 68, 561]), (0, 47, 2, 1, [5], mX5_trustByFinger, [562, 563, 564, 68, 565])]
def am_cl5_1 : List (Nat × Nat × Nat × Nat × List Nat × Mth × List Nat) := [(0, 57, 2, 2, [5], mX5_gain, [566, 530, 531, 68, 532])]
def am_cl6_0 : List (Nat × Nat × Nat × Nat × List Nat × Mth × List Nat) := [(1, 1, 4, 2, [], mX0_init, [437, 390, 71, 391])]
def am_cl7_0 : List (Nat × Nat × Nat × Nat × List Nat × Mth × List Nat) := [(1, 3, 5, 1, [], mX11_within, [219, 94, 95]), (1, 17, 4, 2, [], mX5_init, [223, 224, 68, 225]), (0, 28, 2, 2, [5], mX5_setTo, [351, 352, 353, 68, 354]), (0, 105, 2, 3, [8], mX8_number, [363, 364, 365, 70, 366]), (0, 110, 2, 2, [8], mX8_at, [375, 368, 369, 70, 370]), (0, 113, 2, 4, [7], mX7_obeysCome, [376, 378, 5, 67, 379]), (0, 131, 2, 1, [7], mX7_hasRoom, [380, 381, 382, 67, 383]), (2, 134, 0, 2, [], mX1_of, [384, 385, 66, 386])]
def am_cl7_1 : List (Nat × Nat × Nat × Nat × List Nat × Mth × List Nat) := [(0, 138, 2, 3, [7], mX7_add, [494, 495, 496, 67, 497]), (0, 116, 2, 3, [7], mX7_obeysMinute, [498, 500, 6, 67, 501]), (0, 142, 2, 3, [7], mX7_canTake, [502, 503, 504, 67, 505]), (0, 42, 2, 2, [7], mX7_has, [506, 507, 508, 67, 509]), (2, 38, 1, 3, [], mX11_within, [321, 65, 322]), (0, 46, 2, 1, [5], mX5_swims, [511, 512, 513, 68, 514]), (0, 101, 2, 3, [7], mX7_take, [515, 516, 517, 67, 518]), (0, 67, 2, 2, [7], mX7_shownTo, [519, 521, 7, 67, 522])]
def am_cl7_2 : List (Nat × Nat × Nat × Nat × List Nat × Mth × List Nat) := [(2, 89, 8, 1, [], mX11_within, [523, 524, 78, 525]), (2, 94, 6, 2, [], mX11_within, [526, 527, 78, 528]), (0, 71, 2, 2, [5], mX5_gain, [529, 530, 531, 68, 532]), (0, 74, 2, 2, [5], mX5_meets, [537, 538, 539, 68, 540]), (0, 82, 2, 3, [7], mX7_passOn, [567, 569, 8, 67, 570]), (0, 86, 2, 1, [5], mX5_getsColder, [571, 572, 573, 68, 574]), (0, 119, 2, 2, [7], mX7_pause, [575, 576, 577, 67, 578]), (0, 63, 2, 2, [5], mX5_pauses, [579, 580, 581, 68, 582])]
def am_cl7_3 : List (Nat × Nat × Nat × Nat × List Nat × Mth × List Nat) := [(0, 122, 2, 3, [7], mX7_obeysChange, [583, 585, 9, 67, 586]), (0, 145, 2, 3, [7], mX7_hasTwo, [587, 588, 589, 67, 590]), (0, 148, 2, 3, [7], mX7_swap, [591, 592, 593, 67, 594]), (0, 125, 2, 3, [7], mX7_obeysTrust, [595, 597, 10, 67, 598]), (0, 128, 2, 3, [7], mX7_obeysStep, [599, 601, 11, 67, 602]), (0, 98, 2, 1, [5], mX5_isReady, [653, 542, 543, 68, 544]), (0, 151, 2, 1, [5], mX5_stepsByFinger, [690, 559, 560, 68, 561])]
def am_cl8_0 : List (Nat × Nat × Nat × Nat × List Nat × Mth × List Nat) := [(2, 34, 0, 1, [], mX8_digitsBehind, [339, 340, 70, 341]), (2, 25, 1, 3, [], mX11_within, [321, 65, 322]), (0, 38, 2, 2, [8], mX8_at, [367, 368, 369, 70, 370]), (0, 29, 2, 2, [8], mX8_has, [371, 372, 373, 70, 374]), (1, 3, 5, 1, [], mX11_within, [869, 94, 95]), (2, 15, 6, 2, [], mX11_within, [870, 527, 78, 528])]
def am_cl9_0 : List (Nat × Nat × Nat × Nat × List Nat × Mth × List Nat) := [(1, 3, 4, 2, [], mX1_init, [407, 104, 66, 105])]
def am_cl10_0 : List (Nat × Nat × Nat × Nat × List Nat × Mth × List Nat) := [(1, 3, 4, 2, [], mX1_init, [422, 104, 66, 105])]
def am_cl11_0 : List (Nat × Nat × Nat × Nat × List Nat × Mth × List Nat) := [(1, 3, 5, 1, [], mX11_within, [93, 94, 95]), (1, 40, 4, 2, [], mX1_init, [103, 104, 66, 105]), (1, 43, 4, 2, [], mX7_init, [216, 217, 67, 218]), (1, 55, 4, 2, [], mX5_init, [268, 224, 68, 225]), (0, 63, 2, 2, [11], mX11_rowOn, [313, 315, 0, 65, 316]), (2, 142, 0, 1, [], mX11_isShelf, [317, 318, 65, 319]), (2, 145, 0, 3, [], mX11_within, [320, 321, 65, 322]), (0, 67, 2, 2, [11], mX11_whyNot, [323, 325, 1, 65, 326])]
def am_cl11_1 : List (Nat × Nat × Nat × Nat × List Nat × Mth × List Nat) := [(0, 312, 2, 2, [11], mX11_isEmpty, [327, 329, 2, 65, 330]), (0, 149, 2, 2, [11], mX11_kindOn, [331, 333, 3, 65, 334]), (0, 75, 2, 1, [8], mX8_misshapenAt, [335, 336, 337, 70, 338]), (0, 79, 2, 1, [11], mX11_fromNow, [343, 345, 4, 65, 346]), (0, 96, 2, 2, [7], mX7_setTo, [347, 348, 349, 67, 350]), (0, 83, 2, 1, [8], mX8_size, [355, 356, 357, 70, 358]), (0, 86, 2, 3, [7], mX7_obeys, [359, 360, 361, 67, 362]), (0, 90, 2, 2, [8], mX8_at, [603, 368, 369, 70, 370])]
def am_cl11_2 : List (Nat × Nat × Nat × Nat × List Nat × Mth × List Nat) := [(2, 93, 0, 1, [], mX8_digitsBehind, [604, 340, 70, 341]), (0, 100, 2, 2, [7], mX7_has, [609, 507, 508, 67, 509]), (0, 130, 2, 1, [5], mX5_needs, [610, 611, 612, 68, 613]), (0, 153, 2, 1, [7], mX7_hasRoom, [618, 381, 382, 67, 383]), (0, 157, 2, 3, [7], mX7_add, [619, 495, 496, 67, 497]), (0, 163, 2, 1, [5], mX5_swims, [628, 512, 513, 68, 514]), (0, 169, 2, 3, [7], mX7_take, [629, 516, 517, 67, 518]), (0, 173, 2, 3, [7], mX7_hasTwo, [634, 588, 589, 67, 590])]
def am_cl11_3 : List (Nat × Nat × Nat × Nat × List Nat × Mth × List Nat) := [(0, 176, 2, 3, [7], mX7_swap, [635, 592, 593, 67, 594]), (0, 180, 2, 2, [7], mX7_pause, [640, 576, 577, 67, 578]), (0, 183, 2, 1, [7], mX7_allSteps, [641, 642, 643, 67, 644]), (0, 186, 2, 1, [7], mX7_readyBits, [649, 650, 651, 67, 652]), (0, 189, 2, 3, [11], mX11_fewestAlone, [658, 660, 12, 65, 661]), (2, 335, 0, 2, [], mJ7_fill_53178, [662, 663, 79, 664]), (2, 341, 0, 1, [], mX11_stateOf, [665, 666, 65, 667]), (0, 345, 2, 2, [5], mX5_meets, [668, 538, 539, 68, 540])]
def am_cl11_4 : List (Nat × Nat × Nat × Nat × List Nat × Mth × List Nat) := [(0, 193, 2, 3, [11], mX11_firstWayAlone, [669, 671, 13, 65, 672]), (0, 227, 2, 2, [5], mX5_setTo, [673, 352, 353, 68, 354]), (0, 196, 2, 3, [11], mX11_mostFrom, [682, 684, 14, 65, 685]), (0, 348, 2, 1, [7], mX7_anyCanStep, [686, 687, 688, 67, 689]), (0, 270, 2, 3, [7], mX7_canTake, [691, 503, 504, 67, 505]), (2, 233, 6, 2, [], mX11_within, [692, 527, 78, 528]), (0, 200, 2, 3, [11], mX11_firstMinuteTo, [693, 695, 15, 65, 696]), (0, 203, 2, 1, [7], mX7_takeTurn, [701, 702, 703, 67, 704])]
def am_cl11_5 : List (Nat × Nat × Nat × Nat × List Nat × Mth × List Nat) := [(0, 206, 2, 1, [7], mX7_swimBits, [705, 706, 707, 67, 708]), (2, 209, 0, 1, [], mJ6_bitCount_0f7a4, [709, 710, 80, 711]), (0, 217, 2, 4, [11], mX11_arrange, [723, 725, 16, 65, 726]), (2, 321, 9, 5, [], mX11_within, [727, 729, 728, 81]), (0, 351, 2, 2, [11], mX11_passesOf, [730, 732, 17, 65, 733]), (0, 221, 2, 2, [7], mX7_neighbours, [738, 739, 740, 67, 741]), (0, 224, 2, 1, [5], mX5_isReady, [742, 542, 543, 68, 544]), (0, 230, 2, 2, [5], mX5_gain, [747, 530, 531, 68, 532])]
def am_cl11_6 : List (Nat × Nat × Nat × Nat × List Nat × Mth × List Nat) := [(2, 238, 7, 2, [], mX11_within, [752, 534, 78, 535]), (2, 243, 0, 6, [], mX11_outcomes, [758, 759, 65, 760]), (0, 354, 3, 2, [0, 1, 2, 3, 4, 6, 9, 10], mX1_needsAt, [761, 549, 547, 66, 557, 550, 548, 551, 552, 553, 554, 555, 556]), (2, 247, 0, 3, [], mX11_inLeastTerms, [762, 763, 65, 764]), (2, 251, 0, 2, [], mX1_of, [769, 385, 66, 386]), (2, 255, 0, 3, [], mX11_tellsHolding, [770, 771, 65, 772]), (2, 259, 0, 3, [], mX11_staysWith, [777, 778, 65, 779]), (2, 357, 0, 3, [], mX11_daring, [780, 781, 65, 782])]
def am_cl11_7 : List (Nat × Nat × Nat × Nat × List Nat × Mth × List Nat) := [(0, 263, 2, 2, [7], mX7_holdsOf, [787, 788, 789, 67, 790]), (0, 266, 2, 2, [5], mX5_isBehind, [803, 804, 805, 68, 806]), (0, 273, 2, 1, [8], mX8_least, [819, 820, 821, 70, 822]), (2, 276, 0, 1, [], mX11_seedBehind, [828, 829, 65, 830]), (2, 279, 0, 2, [], mX11_below, [832, 833, 65, 834]), (0, 286, 2, 1, [7], mX7_allTrust, [849, 850, 851, 67, 852]), (0, 289, 2, 1, [7], mX7_allCold, [853, 854, 855, 67, 856]), (1, 292, 4, 3, [], mX8_init, [866, 867, 70, 868])]
def am_cl11_8 : List (Nat × Nat × Nat × Nat × List Nat × Mth × List Nat) := [(0, 294, 2, 2, [8], mX8_has, [884, 372, 373, 70, 374]), (0, 295, 2, 3, [8], mX8_set, [885, 886, 887, 70, 888]), (0, 315, 2, 3, [8], mX8_hasPart, [893, 894, 895, 70, 896])]
def am_cl12_0 : List (Nat × Nat × Nat × Nat × List Nat × Mth × List Nat) := [(1, 1, 5, 1, [], mX11_within, [1047, 94, 95]), (0, 189, 2, 2, [12], mX12_wrongRow, [1169, 1171, 19, 69, 1172]), (2, 84, 0, 3, [], mX12_in, [1174, 1175, 69, 1176]), (0, 192, 2, 1, [12], mX12_readStatement, [1177, 1179, 20, 69, 1180]), (0, 148, 2, 1, [12], mX12_here, [1181, 1183, 21, 69, 1184]), (2, 162, 0, 1, [], mX12_isLetter, [1185, 1186, 69, 1187]), (0, 165, 2, 3, [12], mX12_readNumbers, [1188, 1190, 22, 69, 1191]), (0, 156, 2, 2, [12], mX12_readDigits, [1192, 1194, 23, 69, 1195])]
def am_cl12_1 : List (Nat × Nat × Nat × Nat × List Nat × Mth × List Nat) := [(0, 195, 2, 1, [12], mX12_open, [1198, 1200, 24, 69, 1201]), (0, 216, 2, 3, [12], mX12_carryAll, [1202, 1204, 25, 69, 1205]), (0, 213, 2, 2, [12], mX12_carry, [1206, 1208, 26, 69, 1209]), (0, 198, 2, 2, [12], mX12_comesTold, [1210, 1212, 27, 69, 1213]), (0, 175, 2, 4, [12], mX12_childComes, [1214, 1216, 28, 69, 1217]), (0, 179, 2, 3, [12], mX12_minuteComes, [1218, 1220, 29, 69, 1221]), (0, 99, 2, 2, [12], mX12_isChild, [1222, 1224, 30, 69, 1225]), (0, 168, 2, 3, [12], mX12_goMinute, [1226, 1228, 31, 69, 1229])]
def am_cl12_2 : List (Nat × Nat × Nat × Nat × List Nat × Mth × List Nat) := [(0, 122, 2, 2, [12], mX12_holdsOf, [1230, 1232, 32, 69, 1233]), (2, 88, 0, 2, [], mX12_holdsBy, [1234, 1235, 69, 1236]), (0, 112, 2, 3, [12], mX12_gains, [1237, 1239, 33, 69, 1240]), (2, 103, 0, 2, [], mX12_held, [1241, 1242, 69, 1243]), (0, 95, 2, 2, [12], mX12_needsOf, [1244, 1246, 34, 69, 1247]), (0, 92, 2, 3, [12], mX12_needsAt, [1248, 1250, 35, 69, 1251]), (0, 125, 2, 2, [12], mX12_letGo, [1252, 1254, 36, 69, 1255]), (0, 106, 2, 2, [12], mX12_passesOf, [1256, 1258, 37, 69, 1259])]
def am_cl12_3 : List (Nat × Nat × Nat × Nat × List Nat × Mth × List Nat) := [(0, 109, 2, 2, [12], mX12_isReady, [1260, 1262, 38, 69, 1263]), (0, 116, 2, 2, [12], mX12_frightOf, [1264, 1266, 39, 69, 1267]), (0, 129, 2, 2, [12], mX12_show, [1268, 1270, 40, 69, 1271]), (0, 132, 2, 2, [12], mX12_colder, [1272, 1274, 41, 69, 1275]), (0, 119, 2, 2, [12], mX12_bearsOf, [1276, 1278, 42, 69, 1279]), (0, 183, 2, 2, [12], mX12_goBreak, [1280, 1282, 43, 69, 1283]), (0, 186, 2, 3, [12], mX12_swapAll, [1284, 1286, 44, 69, 1287]), (0, 171, 2, 4, [12], mX12_swapNumbers, [1288, 1290, 45, 69, 1291])]
def am_cl12_4 : List (Nat × Nat × Nat × Nat × List Nat × Mth × List Nat) := [(0, 201, 2, 1, [12], mX12_close, [1292, 1294, 46, 69, 1295]), (0, 227, 2, 2, [12], mX12_wrongKept, [1313, 1315, 47, 69, 1316]), (0, 234, 2, 1, [12], mX12_allSteps, [1335, 1337, 48, 69, 1338]), (0, 237, 2, 1, [12], mX12_readyBits, [1343, 1345, 49, 69, 1346]), (0, 244, 2, 3, [12], mX12_layFewest, [1351, 1353, 50, 69, 1354]), (0, 240, 2, 4, [12], mX12_behindWay, [1355, 1357, 51, 69, 1358]), (0, 247, 2, 3, [12], mX12_aloneFrom, [1359, 1361, 52, 69, 1362]), (0, 250, 2, 2, [12], mX12_stateOf, [1363, 1365, 53, 69, 1366])]
def am_cl12_5 : List (Nat × Nat × Nat × Nat × List Nat × Mth × List Nat) := [(0, 268, 2, 2, [12], mX12_layMost, [1375, 1377, 54, 69, 1378]), (0, 259, 2, 2, [12], mX12_keepStage, [1379, 1381, 55, 69, 1382]), (0, 262, 2, 2, [12], mX12_nextChoice, [1383, 1385, 56, 69, 1386]), (0, 265, 2, 2, [12], mX12_toStage, [1387, 1389, 57, 69, 1390]), (0, 276, 2, 1, [12], mX12_nextTurn, [1396, 1398, 58, 69, 1399]), (0, 279, 2, 1, [12], mX12_swimBits, [1400, 1402, 59, 69, 1403]), (2, 282, 0, 1, [], mX12_onesOf, [1404, 1405, 69, 1406]), (2, 285, 0, 1, [], mX12_ordersOf, [1416, 1417, 69, 1418])]
def am_cl12_6 : List (Nat × Nat × Nat × Nat × List Nat × Mth × List Nat) := [(0, 293, 2, 3, [12], mX12_layOrder, [1419, 1421, 60, 69, 1422]), (2, 288, 0, 2, [], mX12_hasBit, [1423, 1424, 69, 1425]), (2, 306, 0, 3, [], mX12_partOf, [1445, 1446, 69, 1447]), (2, 296, 0, 2, [], mX12_divisor, [1448, 1449, 69, 1450]), (0, 310, 2, 4, [12], mX12_daresOf, [1459, 1461, 61, 69, 1462]), (0, 323, 2, 2, [12], mX12_skipped, [1493, 1495, 62, 69, 1496]), (0, 333, 2, 2, [12], mX12_drawBelow, [1504, 1506, 63, 69, 1507]), (2, 336, 0, 2, [], mX12_narrowed, [1527, 1528, 69, 1529])]
def am_cl12_7 : List (Nat × Nat × Nat × Nat × List Nat × Mth × List Nat) := [(2, 340, 0, 2, [], mX12_costOf, [1542, 1543, 69, 1544])]
def am_cl13_0 : List (Nat × Nat × Nat × Nat × List Nat × Mth × List Nat) := [(1, 17, 4, 1, [], mX11_init, [90, 91, 65, 92]), (0, 21, 2, 2, [11], mX11_bath, [309, 310, 311, 65, 312]), (0, 26, 2, 3, [11], mX11_child, [605, 606, 607, 65, 608]), (0, 31, 2, 3, [11], mX11_comes, [614, 615, 616, 65, 617]), (0, 35, 2, 4, [11], mX11_feels, [620, 621, 622, 65, 623]), (0, 40, 2, 3, [11], mX11_minute, [624, 625, 626, 65, 627]), (0, 44, 2, 3, [11], mX11_change, [630, 631, 632, 65, 633]), (0, 48, 2, 2, [11], mX11_rest, [636, 637, 638, 65, 639])]
def am_cl13_1 : List (Nat × Nat × Nat × Nat × List Nat × Mth × List Nat) := [(0, 52, 2, 1, [11], mX11_ready, [645, 646, 647, 65, 648]), (0, 57, 2, 3, [11], mX11_alone, [654, 655, 656, 65, 657]), (0, 61, 2, 2, [11], mX11_neverHeld, [674, 675, 676, 65, 677]), (0, 65, 2, 3, [11], mX11_mostSteps, [678, 679, 680, 65, 681]), (0, 69, 2, 3, [11], mX11_byTurns, [697, 698, 699, 65, 700]), (0, 73, 2, 1, [11], mX11_allSwim, [715, 716, 717, 65, 718]), (0, 77, 2, 2, [11], mX11_beside, [719, 720, 721, 65, 722]), (0, 81, 2, 1, [11], mX11_helps, [734, 735, 736, 65, 737])]
def am_cl13_2 : List (Nat × Nat × Nat × Nat × List Nat × Mth × List Nat) := [(0, 85, 2, 2, [11], mX11_costs, [743, 744, 745, 65, 746]), (0, 89, 2, 4, [11], mX11_bands, [748, 749, 750, 65, 751]), (0, 93, 2, 6, [11], mX11_frights, [753, 754, 755, 65, 756]), (0, 98, 2, 5, [11], mX11_was, [765, 766, 767, 65, 768]), (0, 103, 2, 3, [11], mX11_dare, [773, 774, 775, 65, 776]), (0, 107, 2, 3, [11], mX11_group, [783, 784, 785, 65, 786]), (0, 111, 2, 1, [11], mX11_forget, [791, 792, 793, 65, 794]), (0, 115, 2, 3, [11], mX11_coldest, [795, 796, 797, 65, 798])]
def am_cl13_3 : List (Nat × Nat × Nat × Nat × List Nat × Mth × List Nat) := [(0, 119, 2, 1, [11], mX11_last, [799, 800, 801, 65, 802]), (0, 123, 2, 2, [11], mX11_mean, [807, 808, 809, 65, 810]), (0, 128, 2, 2, [11], mX11_forged, [811, 812, 813, 65, 814]), (0, 132, 2, 3, [11], mX11_judge, [815, 816, 817, 65, 818]), (0, 136, 2, 4, [11], mX11_weeks, [824, 825, 826, 65, 827]), (0, 140, 2, 1, [11], mX11_image, [837, 838, 839, 65, 840]), (0, 144, 2, 1, [11], mX11_restore, [841, 842, 843, 65, 844]), (0, 148, 2, 2, [11], mX11_count, [845, 846, 847, 65, 848])]
def am_cl13_4 : List (Nat × Nat × Nat × Nat × List Nat × Mth × List Nat) := [(0, 152, 2, 5, [11], mX11_keep, [857, 858, 859, 65, 860]), (0, 156, 2, 4, [11], mX11_row, [861, 862, 863, 65, 864]), (0, 160, 2, 4, [11], mX11_put, [880, 881, 882, 65, 883]), (0, 173, 2, 6, [11], mX11_copy, [889, 890, 891, 65, 892]), (0, 178, 2, 2, [11], mX11_cost, [897, 898, 899, 65, 900]), (0, 182, 10, 2, [11], mX11_toss, []), (2, 164, 11, 4, [], mL_element, []), (1, 20, 4, 1, [], mX12_init, [1044, 1045, 69, 1046])]
def am_cl13_5 : List (Nat × Nat × Nat × Nat × List Nat × Mth × List Nat) := [(0, 170, 2, 1, [12], mX12_thrown, [1161, 1162, 1163, 69, 1164]), (0, 25, 2, 2, [12], mX12_bath, [1165, 1166, 1167, 69, 1168]), (0, 143, 2, 1, [12], mX12_image, [1296, 1297, 1298, 69, 1299]), (0, 147, 2, 1, [12], mX12_restore, [1300, 1301, 1302, 69, 1303]), (0, 30, 2, 3, [12], mX12_child, [1304, 1305, 1306, 69, 1307]), (0, 34, 2, 3, [12], mX12_comes, [1308, 1309, 1310, 69, 1311]), (0, 39, 2, 4, [12], mX12_feels, [1317, 1318, 1319, 69, 1320]), (0, 43, 2, 3, [12], mX12_minute, [1321, 1322, 1323, 69, 1324])]
def am_cl13_6 : List (Nat × Nat × Nat × Nat × List Nat × Mth × List Nat) := [(0, 47, 2, 3, [12], mX12_change, [1326, 1327, 1328, 69, 1329]), (0, 51, 2, 2, [12], mX12_rest, [1330, 1331, 1332, 69, 1333]), (0, 56, 2, 1, [12], mX12_ready, [1339, 1340, 1341, 69, 1342]), (0, 60, 2, 3, [12], mX12_alone, [1347, 1348, 1349, 69, 1350]), (0, 64, 2, 2, [12], mX12_neverHeld, [1367, 1368, 1369, 69, 1370]), (0, 68, 2, 3, [12], mX12_mostSteps, [1371, 1372, 1373, 69, 1374]), (0, 72, 2, 3, [12], mX12_byTurns, [1391, 1392, 1393, 69, 1394]), (0, 76, 2, 1, [12], mX12_allSwim, [1407, 1408, 1409, 69, 1410])]
def am_cl13_7 : List (Nat × Nat × Nat × Nat × List Nat × Mth × List Nat) := [(0, 80, 2, 2, [12], mX12_beside, [1411, 1412, 1413, 69, 1414]), (0, 84, 2, 1, [12], mX12_helps, [1426, 1427, 1428, 69, 1429]), (0, 88, 2, 2, [12], mX12_costs, [1430, 1431, 1432, 69, 1433]), (0, 92, 2, 4, [12], mX12_bands, [1434, 1435, 1436, 69, 1437]), (0, 97, 2, 6, [12], mX12_frights, [1438, 1439, 1440, 69, 1441]), (0, 102, 2, 5, [12], mX12_was, [1451, 1452, 1453, 69, 1454]), (0, 106, 2, 3, [12], mX12_dare, [1455, 1456, 1457, 69, 1458]), (0, 110, 2, 3, [12], mX12_group, [1463, 1464, 1465, 69, 1466])]
def am_cl13_8 : List (Nat × Nat × Nat × Nat × List Nat × Mth × List Nat) := [(0, 114, 2, 1, [12], mX12_forget, [1468, 1469, 1470, 69, 1471]), (0, 118, 2, 3, [12], mX12_coldest, [1472, 1473, 1474, 69, 1475]), (0, 122, 2, 1, [12], mX12_last, [1477, 1478, 1479, 69, 1480]), (0, 127, 2, 2, [12], mX12_mean, [1481, 1482, 1483, 69, 1484]), (0, 131, 2, 2, [12], mX12_forged, [1485, 1486, 1487, 69, 1488]), (0, 135, 2, 3, [12], mX12_judge, [1489, 1490, 1491, 69, 1492]), (0, 139, 2, 4, [12], mX12_weeks, [1500, 1501, 1502, 69, 1503]), (0, 151, 2, 2, [12], mX12_count, [1511, 1512, 1513, 69, 1514])]
def am_cl13_9 : List (Nat × Nat × Nat × Nat × List Nat × Mth × List Nat) := [(0, 155, 2, 5, [12], mX12_keep, [1515, 1516, 1517, 69, 1518]), (0, 159, 2, 4, [12], mX12_row, [1519, 1520, 1521, 69, 1522]), (0, 163, 2, 4, [12], mX12_put, [1523, 1524, 1525, 69, 1526]), (0, 169, 2, 3, [12], mX12_element, [1530, 1531, 1532, 69, 1533]), (0, 177, 2, 6, [12], mX12_copy, [1534, 1535, 1536, 69, 1537]), (0, 181, 2, 2, [12], mX12_cost, [1538, 1539, 1540, 69, 1541]), (0, 185, 2, 2, [12], mX12_toss, [1545, 1546, 1547, 69, 1548])]
def am_cl (o : Nat) : List (Nat × Nat × Nat × Nat × List Nat × Mth × List Nat) := match o with
  | 0 => am_cl0_0
  | 1 => am_cl1_0 ++ (am_cl1_1)
  | 2 => am_cl2_0
  | 3 => am_cl3_0
  | 4 => am_cl4_0
  | 5 => am_cl5_0 ++ (am_cl5_1)
  | 6 => am_cl6_0
  | 7 => am_cl7_0 ++ (am_cl7_1 ++ (am_cl7_2 ++ (am_cl7_3)))
  | 8 => am_cl8_0
  | 9 => am_cl9_0
  | 10 => am_cl10_0
  | 11 => am_cl11_0 ++ (am_cl11_1 ++ (am_cl11_2 ++ (am_cl11_3 ++ (am_cl11_4 ++ (am_cl11_5 ++ (am_cl11_6 ++ (am_cl11_7 ++ (am_cl11_8))))))))
  | 12 => am_cl12_0 ++ (am_cl12_1 ++ (am_cl12_2 ++ (am_cl12_3 ++ (am_cl12_4 ++ (am_cl12_5 ++ (am_cl12_6 ++ (am_cl12_7)))))))
  | 13 => am_cl13_0 ++ (am_cl13_1 ++ (am_cl13_2 ++ (am_cl13_3 ++ (am_cl13_4 ++ (am_cl13_5 ++ (am_cl13_6 ++ (am_cl13_7 ++ (am_cl13_8 ++ (am_cl13_9)))))))))
  | _ => []
def am_nwl (o : Nat) : List (Nat × Nat × List Nat) := match o with
  | 1 => [(37, 0, [387, 388, 71]), (42, 9, [402, 403, 72]), (45, 10, [417, 418, 73]), (48, 6, [432, 433, 74]), (51, 4, [447, 448, 75]), (54, 2, [462, 463, 76]), (57, 3, [477, 478, 77]), (10, 1, [492, 102, 66])]
  | 7 => [(9, 5, [220, 222, 68])]
  | 11 => [(28, 1, [98, 102, 66]), (9, 7, [96, 215, 67]), (53, 5, [267, 222, 68]), (34, 8, [100, 865, 70])]
  | 13 => [(8, 11, [88, 89, 65]), (18, 12, [1042, 1043, 69])]
  | _ => []
def am_anl (o : Nat) : List (Nat × Nat × Nat) := match o with
  | 7 => [(9, 23, 220)]
  | 11 => [(9, 22, 96), (28, 24, 98), (34, 25, 100)]
  | _ => []
def am_kl (o : Nat) : List (Nat × Int32 × Nat) := match o with
  | 8 => [(33, -2147483648, 823)]
  | 11 => [(361, 1103515245, 831), (362, 2147483647, 835), (363, 65536, 836)]
  | 12 => [(330, 1103515245, 1508), (331, 2147483647, 1509), (332, 65536, 1510)]
  | 14 => [(265, 1431655765, 712), (266, 858993459, 713), (267, 252645135, 714)]
  | _ => []
def am_kl2 (o : Nat) : List (Nat × Int64 × Nat) := match o with
  | 11 => [(241, 1000000001, 757)]
  | 12 => [(223, 7, 1173), (152, 48, 1196), (154, 57, 1197), (225, 20, 1312), (230, 3, 1325), (232, 9, 1334), (274, 99, 1395), (291, -1, 1415), (300, 8, 1442), (302, 2, 1443), (304, 1000000001, 1444), (313, 30, 1467), (315, 60, 1476), (317, -128, 1497), (319, -32768, 1498), (321, -2147483648, 1499)]
  | _ => []
def am_nest : List (Nat × Nat) := [(8, 25), (7, 38)]
end
section
/-! THE SMALL MACHINE: the claim's bytecode run over a heap of numbered cells; its rows say what the real machine does (part 12), its runs are what the rest is about -/
def am_fld (o i : Nat) : Option (Nat × List Nat) := ((am_fl o).find? (fun e => e.1 == i)).map (fun e => (e.2.1, e.2.2.1))
def am_inv (o op i : Nat) : Option (Nat × Nat × List Nat × Mth) := ((am_cl o).find? (fun e => e.1 == op && e.2.1 == i)).map (fun e => (e.2.2.1, e.2.2.2.1, e.2.2.2.2.1, e.2.2.2.2.2.1))
def am_nw (o i : Nat) : Option Nat := ((am_nwl o).find? (fun e => e.1 == i)).map (fun e => e.2.1)
def am_an (o i : Nat) : Option Nat := ((am_anl o).find? (fun e => e.1 == i)).map (fun e => e.2.1)
def am_k (o i : Nat) : Option Int32 := ((am_kl o).find? (fun e => e.1 == i)).map (fun e => e.2.1)
def am_k2 (o i : Nat) : Option Int64 := ((am_kl2 o).find? (fun e => e.1 == i)).map (fun e => e.2.1)
def am_ty (t k : Nat) : FieldType := match t with
  | 5 => tyX5 k
  | 7 => tyX7 k
  | 8 => tyX8 k
  | 11 => tyX11 k
  | 12 => tyX12 k
  | _ => tyX1 k
def am_N (t : Nat) : Nat := match t with
  | 5 => 4
  | 7 => 5
  | 8 => 2
  | 11 => 13
  | 12 => 37
  | _ => 8
def am_df (t : Nat) : List Value := (List.range (am_N t)).map (fun k => defaultValue (am_ty t k))
def am_aty (t : Nat) : FieldType := match t with
  | 20 => .int
  | 21 => .long
  | 22 => .object RX7
  | 23 => .object RX5
  | 24 => .object RX1
  | _ => .object RX8
def am_ael (t : Nat) : List Nat := match t with
  | 22 => [7]
  | 23 => [5]
  | 24 => [0, 1, 2, 3, 4, 6, 9, 10]
  | 25 => [8]
  | _ => []
/-- may this method write field k of an object of class t? -/
def am_pf (M : Mth) (t k : Nat) : Bool := match vwCl[t]? with
  | some q => !(q.2.1 k).2.2.2 || (decide (M.2.1.name = "<init>") && decide ((q.2.1 k).1 = am_R M.1))
  | none => false
def am_put (h : Hp) (a : Nat) (x : OC) : Hp := (fun q => if q = a then some x else h.1 q, h.2.1, h.2.2)
def am_new (h : Hp) (x : OC) (n : Nat) : Hp := (fun q => if q = h.2.1 then some x else h.1 q, h.2.1 + 1, h.2.2 + n)
def am_cats (S : List Value) : Nat := (S.map fun v => v.category).sum
def am_sl (vs : List Value) : List Value := vs.flatMap fun v => if v.category = 2 then [v, .retAddr 0] else [v]
def am_loc (vs : List Value) (n : Nat) : List Value := am_sl vs ++ List.replicate (n - (am_sl vs).length) (.retAddr 0)
def am_clr (L : List Value) (i : Nat) : List Value := match i with
  | 0 => L
  | j + 1 => match L[j]? with
    | some w => if w.category = 2 then L.set j (.retAddr 0) else L
    | none => L
def am_st1 (L : List Value) (i : Nat) (v : Value) : List Value := (am_clr L i).set i v
def am_st2 (L : List Value) (i : Nat) (v : Value) : List Value := ((am_clr L i).set i v).set (i + 1) (.retAddr 0)
def am_tg (pc : Nat) (off : Int) : Nat := ((pc : Int) + off).toNat
def am_tok (pc : Nat) (off : Int) : Bool := decide (0 ≤ (pc : Int) + off)
def am_jp (b : Bool) (pc : Nat) (off : Int) (L S : List Value) (h : Hp) : Option (Nat × List Value × List Value × Hp) :=
  if b then (if am_tok pc off then some (am_tg pc off, L, S, h) else none) else some (pc + 3, L, S, h)
def am_i1 (S : List Value) (k : Int32 → List Value → Option (Nat × List Value × List Value × Hp)) : Option (Nat × List Value × List Value × Hp) := match S with
  | .int x :: r => k x r
  | _ => none
def am_i2 (S : List Value) (k : Int32 → Int32 → List Value → Option (Nat × List Value × List Value × Hp)) : Option (Nat × List Value × List Value × Hp) := match S with
  | .int y :: .int x :: r => k x y r
  | _ => none
def am_l2 (S : List Value) (k : Int64 → Int64 → List Value → Option (Nat × List Value × List Value × Hp)) : Option (Nat × List Value × List Value × Hp) := match S with
  | .long y :: .long x :: r => k x y r
  | _ => none
def am_c2 (c : Jvm.ClassFile.Cond) (x y : Int32) : Bool := match c with
  | .eq => decide (x = y)
  | .ne => decide (¬ x = y)
  | .lt => decide (x < y)
  | .ge => decide (y ≤ x)
  | .gt => decide (y < x)
  | .le => decide (x ≤ y)
def am_ldi (L : List Value) (i q : Nat) (S : List Value) (h : Hp) : Option (Nat × List Value × List Value × Hp) := match L[i]? with
  | some (.int x) => some (q, L, .int x :: S, h)
  | _ => none
def am_ldl (L : List Value) (i q : Nat) (S : List Value) (h : Hp) : Option (Nat × List Value × List Value × Hp) := match L[i]? with
  | some (.long x) => some (q, L, .long x :: S, h)
  | _ => none
def am_lda (L : List Value) (i q : Nat) (S : List Value) (h : Hp) : Option (Nat × List Value × List Value × Hp) := match L[i]? with
  | some (.ref x) => some (q, L, .ref x :: S, h)
  | some .null => some (q, L, .null :: S, h)
  | _ => none
def am_sti (L : List Value) (i q : Nat) (S : List Value) (h : Hp) : Option (Nat × List Value × List Value × Hp) := match S with
  | .int x :: r => if i < L.length then some (q, am_st1 L i (.int x), r, h) else none
  | _ => none
def am_sta (L : List Value) (i q : Nat) (S : List Value) (h : Hp) : Option (Nat × List Value × List Value × Hp) := match S with
  | .ref x :: r => if i < L.length then some (q, am_st1 L i (.ref x), r, h) else none
  | .null :: r => if i < L.length then some (q, am_st1 L i .null, r, h) else none
  | _ => none
def am_stl (L : List Value) (i q : Nat) (S : List Value) (h : Hp) : Option (Nat × List Value × List Value × Hp) := match S with
  | .long x :: r => if i + 1 < L.length then some (q, am_st2 L i (.long x), r, h) else none
  | _ => none
def am_inc (L : List Value) (i : Nat) (n : Int) (q : Nat) (S : List Value) (h : Hp) : Option (Nat × List Value × List Value × Hp) := match L[i]? with
  | some (.int x) => some (q, am_st1 L i (.int (x + Int32.ofInt n)), S, h)
  | _ => none
def am_getf (M : Mth) (i q : Nat) (L S : List Value) (h : Hp) : Option (Nat × List Value × List Value × Hp) := match S with
  | .ref a :: r => match h.1 a, am_fld M.1 i with
    | some (t, fs), some (k, ts) => match fs[k]? with
      | some v => if ts.contains t then some (q, L, v :: r, h) else none
      | none => none
    | _, _ => none
  | _ => none
def am_putf (B : Nat) (M : Mth) (i q : Nat) (L S : List Value) (h : Hp) : Option (Nat × List Value × List Value × Hp) := match S with
  | v :: .ref a :: r => match h.1 a, am_fld M.1 i with
    | some (t, fs), some (k, ts) => if ts.contains t = true ∧ am_pf M t k = true ∧ narrow (am_ty t k) v = v ∧ fits (am_ty t k) v = true ∧ B ≤ a then some (q, L, r, am_put h a (t, fs.set k v)) else none
    | _, _ => none
  | _ => none
/-- an element of an array of kind w (20 ints, 21 longs, 22 and on references) -/
def am_ald (w1 w2 : Nat) (q : Nat) (L S : List Value) (h : Hp) : Option (Nat × List Value × List Value × Hp) := match S with
  | .int j :: .ref a :: r => match h.1 a with
    | some (t, fs) => match fs[j.toNatClampNeg]? with
      | some v => if (w1 ≤ t ∧ t < w2) ∧ ¬ j < 0 then some (q, L, v :: r, h) else none
      | none => none
    | none => none
  | _ => none
def am_iast (B q : Nat) (L S : List Value) (h : Hp) : Option (Nat × List Value × List Value × Hp) := match S with
  | .int x :: .int j :: .ref a :: r => match h.1 a with
    | some (t, fs) => if t = 20 ∧ ¬ j < 0 ∧ j.toNatClampNeg < fs.length ∧ B ≤ a then some (q, L, r, am_put h a (t, fs.set j.toNatClampNeg (.int x))) else none
    | none => none
  | _ => none
def am_last (B q : Nat) (L S : List Value) (h : Hp) : Option (Nat × List Value × List Value × Hp) := match S with
  | .long x :: .int j :: .ref a :: r => match h.1 a with
    | some (t, fs) => if t = 21 ∧ ¬ j < 0 ∧ j.toNatClampNeg < fs.length ∧ B ≤ a then some (q, L, r, am_put h a (t, fs.set j.toNatClampNeg (.long x))) else none
    | none => none
  | _ => none
def am_aast (B q : Nat) (L S : List Value) (h : Hp) : Option (Nat × List Value × List Value × Hp) := match S with
  | .null :: .int j :: .ref a :: r => match h.1 a with
    | some (t, fs) => if (22 ≤ t ∧ t < 26) ∧ ¬ j < 0 ∧ j.toNatClampNeg < fs.length ∧ B ≤ a then some (q, L, r, am_put h a (t, fs.set j.toNatClampNeg .null)) else none
    | none => none
  | .ref v :: .int j :: .ref a :: r => match h.1 a, h.1 v with
    | some (t, fs), some (tv, _) => if (22 ≤ t ∧ t < 26) ∧ (am_ael t).contains tv = true ∧ ¬ j < 0 ∧ j.toNatClampNeg < fs.length ∧ B ≤ a then some (q, L, r, am_put h a (t, fs.set j.toNatClampNeg (.ref v))) else none
    | _, _ => none
  | _ => none
def am_alen (q : Nat) (L S : List Value) (h : Hp) : Option (Nat × List Value × List Value × Hp) := match S with
  | .ref a :: r => match h.1 a with
    | some (t, fs) => if 20 ≤ t ∧ t < 26 then some (q, L, .int (Int32.ofNat fs.length) :: r, h) else none
    | none => none
  | _ => none
def am_newa (t : Nat) (z : Value) (q : Nat) (L S : List Value) (h : Hp) : Option (Nat × List Value × List Value × Hp) := match S with
  | .int n :: r => if ¬ n < 0 ∧ n.toNatClampNeg ≤ 100000 then some (q, L, .ref h.2.1 :: r, am_new h (t, List.replicate n.toNatClampNeg z) n.toNatClampNeg) else none
  | _ => none
def am_nul (b : Bool) (pc : Nat) (off : Int) (L S : List Value) (h : Hp) : Option (Nat × List Value × List Value × Hp) := match S with
  | .null :: r => am_jp b pc off L r h
  | .ref _ :: r => am_jp (!b) pc off L r h
  | _ => none
/-- the instructions that are neither calls nor ends -/
def am_s (B : Nat) (M : Mth) (ins : Instr) (pc : Nat) (L S : List Value) (h : Hp) : Option (Nat × List Value × List Value × Hp) := match ins with
  | .iconst n => some (pc + 1, L, .int (Int32.ofInt n) :: S, h)
  | .bipush n => some (pc + 2, L, .int (Int8.ofInt n).toInt32 :: S, h)
  | .sipush n => some (pc + 3, L, .int (Int16.ofInt n).toInt32 :: S, h)
  | .lconst n => some (pc + 1, L, .long (Int64.ofNat (n : Nat)) :: S, h)
  | .aconst_null => some (pc + 1, L, .null :: S, h)
  | .ldc i => (am_k M.1 i).bind fun v => some (pc + 2, L, .int v :: S, h)
  | .ldc_w i => (am_k M.1 i).bind fun v => some (pc + 3, L, .int v :: S, h)
  | .ldc2_w i => (am_k2 M.1 i).bind fun v => some (pc + 3, L, .long v :: S, h)
  | .iload_n k => am_ldi L k.val (pc + 1) S h
  | .iload i => am_ldi L i (pc + 2) S h
  | .lload_n k => am_ldl L k.val (pc + 1) S h
  | .lload i => am_ldl L i (pc + 2) S h
  | .aload_n k => am_lda L k.val (pc + 1) S h
  | .aload i => am_lda L i (pc + 2) S h
  | .istore_n k => am_sti L k.val (pc + 1) S h
  | .istore i => am_sti L i (pc + 2) S h
  | .lstore_n k => am_stl L k.val (pc + 1) S h
  | .lstore i => am_stl L i (pc + 2) S h
  | .astore_n k => am_sta L k.val (pc + 1) S h
  | .astore i => am_sta L i (pc + 2) S h
  | .iinc i n => am_inc L i n (pc + 3) S h
  | .iadd => am_i2 S fun x y r => some (pc + 1, L, .int (x + y) :: r, h)
  | .isub => am_i2 S fun x y r => some (pc + 1, L, .int (x - y) :: r, h)
  | .imul => am_i2 S fun x y r => some (pc + 1, L, .int (x * y) :: r, h)
  | .iand => am_i2 S fun x y r => some (pc + 1, L, .int (x &&& y) :: r, h)
  | .ior => am_i2 S fun x y r => some (pc + 1, L, .int (x ||| y) :: r, h)
  | .idiv => am_i2 S fun x y r => if y = 0 then none else some (pc + 1, L, .int (x / y) :: r, h)
  | .irem => am_i2 S fun x y r => if y = 0 then none else some (pc + 1, L, .int (x - x / y * y) :: r, h)
  | .ishl => am_i2 S fun x y r => some (pc + 1, L, .int (x <<< (y &&& 31)) :: r, h)
  | .ishr => am_i2 S fun x y r => some (pc + 1, L, .int (x >>> (y &&& 31)) :: r, h)
  | .iushr => am_i2 S fun x y r => some (pc + 1, L, .int (x.toUInt32 >>> (y.toUInt32 &&& Int32.toUInt32 31)).toInt32 :: r, h)
  | .ineg => am_i1 S fun x r => some (pc + 1, L, .int (-x) :: r, h)
  | .ladd => am_l2 S fun x y r => some (pc + 1, L, .long (x + y) :: r, h)
  | .lmul => am_l2 S fun x y r => some (pc + 1, L, .long (x * y) :: r, h)
  | .ldiv => am_l2 S fun x y r => if y = 0 then none else some (pc + 1, L, .long (x / y) :: r, h)
  | .lrem => am_l2 S fun x y r => if y = 0 then none else some (pc + 1, L, .long (x - x / y * y) :: r, h)
  | .lcmp => am_l2 S fun x y r => some (pc + 1, L, .int (lg_cmp x y) :: r, h)
  | .i2l => am_i1 S fun x r => some (pc + 1, L, .long x.toInt64 :: r, h)
  | .i2b => am_i1 S fun x r => some (pc + 1, L, .int x.toInt8.toInt32 :: r, h)
  | .i2s => am_i1 S fun x r => some (pc + 1, L, .int x.toInt16.toInt32 :: r, h)
  | .l2i => match S with
    | .long x :: r => some (pc + 1, L, .int x.toInt32 :: r, h)
    | _ => none
  | .dup => match S with
    | v :: r => if v.category = 1 then some (pc + 1, L, v :: v :: r, h) else none
    | _ => none
  | .pop => match S with
    | v :: r => if v.category = 1 then some (pc + 1, L, r, h) else none
    | _ => none
  | .dup2 => match S with
    | v :: w :: r => if v.category = 1 ∧ w.category = 1 then some (pc + 1, L, v :: w :: v :: w :: r, h) else none
    | _ => none
  | .ifCond c off => am_i1 S fun x r => am_jp (am_c2 c x 0) pc off L r h
  | .if_icmp c off => am_i2 S fun x y r => am_jp (am_c2 c x y) pc off L r h
  | .goto off => am_jp true pc off L S h
  | .ifnull off => am_nul true pc off L S h
  | .ifnonnull off => am_nul false pc off L S h
  | .tableswitch dflt lo hi offs => am_i1 S fun x r =>
      if x.toInt < lo ∨ hi < x.toInt then (if am_tok pc dflt then some (am_tg pc dflt, L, r, h) else none)
      else match offs[(x.toInt - lo).toNat]? with
        | some off => if am_tok pc off then some (am_tg pc off, L, r, h) else none
        | none => none
  | .lookupswitch dflt ps => am_i1 S fun x r =>
      if (ps.toList.zip (ps.toList.drop 1)).all (fun (a, next) => a.1 < next.1) = true ∧ am_tok pc (Op.lookupswitch.offset ps.toList dflt x.toInt) = true then some (am_tg pc (Op.lookupswitch.offset ps.toList dflt x.toInt), L, r, h) else none
  | .getfield i => am_getf M i (pc + 3) L S h
  | .putfield i => am_putf B M i (pc + 3) L S h
  | .iaload => am_ald 20 21 (pc + 1) L S h
  | .laload => am_ald 21 22 (pc + 1) L S h
  | .aaload => am_ald 22 26 (pc + 1) L S h
  | .iastore => am_iast B (pc + 1) L S h
  | .lastore => am_last B (pc + 1) L S h
  | .aastore => am_aast B (pc + 1) L S h
  | .arraylength => am_alen (pc + 1) L S h
  | .new i => (am_nw M.1 i).bind fun t => some (pc + 3, L, .ref h.2.1 :: S, am_new h (t, am_df t) (am_N t))
  | .newarray a => match a with
    | .int => am_newa 20 (.int 0) (pc + 2) L S h
    | .long => am_newa 21 (.long 0) (pc + 2) L S h
    | _ => none
  | .anewarray i => (am_an M.1 i).bind fun t => am_newa t .null (pc + 3) L S h
  | _ => none
def am_lok (ins : Instr) (len : Nat) : Bool := match ins with
  | .bipush _ | .iload _ | .lload _ | .aload _ | .istore _ | .lstore _ | .astore _ | .ldc _ | .newarray _ => len == 2
  | .sipush _ | .iinc _ _ | .getfield _ | .putfield _ | .ifCond _ _ | .if_icmp _ _ | .goto _ | .ifnull _ | .ifnonnull _ | .new _ | .anewarray _ | .ldc_w _ | .ldc2_w _ | .invokevirtual _ | .invokespecial _ | .invokestatic _ => len == 3
  | .tableswitch _ _ _ _ | .lookupswitch _ _ => true
  | _ => len == 1
def am_op (ins : Instr) : Option (Nat × Nat) := match ins with
  | .invokevirtual i => some (0, i)
  | .invokespecial i => some (1, i)
  | .invokestatic i => some (2, i)
  | _ => none
def am_isI (v : Value) : Bool := match v with
  | .int _ => true
  | _ => false
def am_isR (v : Value) : Bool := match v with
  | .null => true
  | .ref _ => true
  | _ => false
/-- the end of a method -/
def am_ret (M : Mth) (ins : Instr) (S : List Value) : Option (Option Value) := match ins with
  | .ireturn => match S, M.2.2.2.2 with
    | [.int v], some ty => if narrow ty (.int v) = .int v then some (some (.int v)) else none
    | _, _ => none
  | .lreturn => match S, M.2.2.2.2 with
    | [.long v], some .long => some (some (.long v))
    | _, _ => none
  | .areturn => match S, M.2.2.2.2 with
    | [v], some (.object _) => if am_isR v then some (some v) else none
    | _, _ => none
  | .return_ => match S, M.2.2.2.2 with
    | [], none => some none
    | _, _ => none
  | _ => none
def am_cpy (f g : List Value) (sp dp n : Nat) : List Value := g.take dp ++ ((f.drop sp).take n ++ g.drop (dp + n))
/-- calls that the kit knows: Object's constructor, Math's max, min, abs, System.arraycopy of ints -/
def am_bi (B mode : Nat) (vs : List Value) (h : Hp) : Option (Option Value × Hp) := match mode, vs with
  | 5, [.ref _] => some (none, h)
  | 6, [.int x, .int y] => some (some (.int (if x < y then y else x)), h)
  | 7, [.int x, .int y] => some (some (.int (if y < x then y else x)), h)
  | 8, [.int x] => some (some (.int (if 0 ≤ x then x else 0 - x)), h)
  | 9, [.ref a0, .int sp, .ref a, .int dp, .int n] => match h.1 a0, h.1 a with
    | some (t0, f), some (t1, g) => if t0 = 20 ∧ t1 = 20 ∧ ¬ sp < 0 ∧ ¬ dp < 0 ∧ ¬ n < 0 ∧ sp.toNatClampNeg + n.toNatClampNeg ≤ f.length ∧ dp.toNatClampNeg + n.toNatClampNeg ≤ g.length ∧ f.all am_isI = true ∧ g.all am_isI = true ∧ B ≤ a then
        some (none, am_put h a (20, am_cpy f g sp.toNatClampNeg dp.toNatClampNeg n.toNatClampNeg)) else none
    | _, _ => none
  | _, _ => none
/-- the receiver: an object of one of these classes -/
def am_rc (mode : Nat) (ts : List Nat) (vs : List Value) (h : Hp) : Bool := match mode with
  | 2 | 3 | 10 => match vs with
    | .ref b :: _ => match h.1 b with
      | some (t, _) => ts.contains t
      | none => false
    | _ => false
  | 4 => match vs with
    | .ref _ :: _ => true
    | _ => false
  | _ => true
def am (O : Nat → List Value → Hp → Option (Option Value × Hp)) (B : Nat) : Nat → Nat → Mth → Nat → List Value → List Value → Hp → Option (Option Value × Hp)
  | 0, _, _, _, _, _, _ => none
  | F + 1, d, M, pc, L, S, h =>
    match decode M.2.2.1 pc with
    | .error _ => none
    | .ok (ins, len) =>
      if am_lok ins len = true then
        match am_op ins with
        | some (op, i) =>
          match d, am_inv M.1 op i with
          | d + 1, some (mode, n, ts, C) =>
            if n ≤ S.length ∧ am_cats (S.drop n) ≤ 8 ∧ am_rc mode ts (S.take n).reverse h = true ∧ (mode ≤ 4 → (am_sl (S.take n).reverse).length ≤ C.2.2.2.1) then
              match (if mode ≤ 4 then am O B F d C 0 (am_loc (S.take n).reverse C.2.2.2.1) [] h else if mode ≤ 9 then am_bi B mode (S.take n).reverse h else O mode (S.take n).reverse h) with
              | some (r, h1) => am O B F (d + 1) M (pc + 3) L (r.toList ++ S.drop n) h1
              | none => none
            else none
          | _, _ => none
        | none =>
          match am_ret M ins S with
          | some r => some (r, h)
          | none => match am_s B M ins pc L S h with
            | some (pc', L', S', h') => am O B F d M pc' L' S' h'
            | none => none
      else none
end
section
/-! the tables' own rows, counted by the kernel -/
def am_w (p : Nat) (w : Cond) : Bool := decide (lw_tbl[p]? = some w) && goodWord w
theorem am_w_in {p : Nat} {w : Cond} (h : am_w p w = true) : w ∈ lw_good := by
  unfold am_w at h
  rw [Bool.and_eq_true] at h
  exact List.mem_filter.mpr ⟨List.mem_of_getElem? (of_decide_eq_true h.1), h.2⟩
theorem am_good : ∀ w ∈ lw_good, goodWord w = true := fun w h => (List.mem_filter.mp h).2
def am_uck (ws : List Cond) (ps : List Nat) : Bool := decide (ws.length = ps.length) && (ws.zip ps).all fun q => am_w q.2 q.1
theorem am_uck_in {ws : List Cond} {ps : List Nat} (h : am_uck ws ps = true) : ∀ w ∈ ws, w ∈ lw_good := by
  intro w hw
  unfold am_uck at h
  rw [Bool.and_eq_true] at h
  obtain ⟨i, hi⟩ := List.getElem?_of_mem hw
  have hl := of_decide_eq_true h.1
  have hlt : i < ws.length := (List.getElem?_eq_some_iff.mp hi).1
  have hp : ps[i]? = some (ps[i]'(hl ▸ hlt)) := List.getElem?_eq_getElem _
  have hz : (ws.zip ps)[i]? = some (w, ps[i]'(hl ▸ hlt)) := by
    rw [List.getElem?_zip_eq_some]
    exact ⟨hi, hp⟩
  exact am_w_in (List.all_eq_true.mp h.2 _ (List.mem_of_getElem? hz))
theorem am_u0 : ∀ w ∈ u_ws RX0 TX0 8, w ∈ lw_good := am_uck_in (ps := [393, 394, 395, 396, 397, 398, 399, 400]) (by decide +kernel)
theorem am_u1 : ∀ w ∈ u_ws RX1 TX1 8, w ∈ lw_good := am_uck_in (ps := [197, 199, 201, 203, 205, 207, 209, 211]) (by decide +kernel)
theorem am_u2 : ∀ w ∈ u_ws RX2 TX2 8, w ∈ lw_good := am_uck_in (ps := [468, 469, 470, 471, 472, 473, 474, 475]) (by decide +kernel)
theorem am_u3 : ∀ w ∈ u_ws RX3 TX3 8, w ∈ lw_good := am_uck_in (ps := [483, 484, 485, 486, 487, 488, 489, 490]) (by decide +kernel)
theorem am_u4 : ∀ w ∈ u_ws RX4 TX4 8, w ∈ lw_good := am_uck_in (ps := [453, 454, 455, 456, 457, 458, 459, 460]) (by decide +kernel)
theorem am_u5 : ∀ w ∈ u_ws RX5 TX5 4, w ∈ lw_good := am_uck_in (ps := [239, 241, 243, 245]) (by decide +kernel)
theorem am_u6 : ∀ w ∈ u_ws RX6 TX6 8, w ∈ lw_good := am_uck_in (ps := [438, 439, 440, 441, 442, 443, 444, 445]) (by decide +kernel)
theorem am_u7 : ∀ w ∈ u_ws RX7 TX7 5, w ∈ lw_good := am_uck_in (ps := [256, 258, 260, 262, 264]) (by decide +kernel)
theorem am_u8 : ∀ w ∈ u_ws RX8 TX8 2, w ∈ lw_good := am_uck_in (ps := [875, 877]) (by decide +kernel)
theorem am_u9 : ∀ w ∈ u_ws RX9 TX9 8, w ∈ lw_good := am_uck_in (ps := [408, 409, 410, 411, 412, 413, 414, 415]) (by decide +kernel)
theorem am_u10 : ∀ w ∈ u_ws RX10 TX10 8, w ∈ lw_good := am_uck_in (ps := [423, 424, 425, 426, 427, 428, 429, 430]) (by decide +kernel)
theorem am_u11 : ∀ w ∈ u_ws RX11 TX11 13, w ∈ lw_good := am_uck_in (ps := [282, 284, 286, 288, 290, 292, 294, 296, 298, 300, 302, 304, 306]) (by decide +kernel)
theorem am_u12 : ∀ w ∈ u_ws RX12 TX12 37, w ∈ lw_good := am_uck_in (ps := [1085, 1087, 1089, 1091, 1093, 1095, 1097, 1099, 1101, 1103, 1105, 1107, 1109, 1111, 1113, 1115, 1117, 1119, 1121, 1123, 1125, 1127, 1129, 1131, 1133, 1135, 1137, 1139, 1141, 1143, 1145, 1147, 1149, 1151, 1153, 1155, 1157]) (by decide +kernel)
/-- what the tables say of a class of the machine -/
def am_cls (t : Nat) (q : vw_C) : Prop := (∀ w ∈ u_ws q.1 q.2.1 q.2.2, w ∈ lw_good) ∧ (∀ k, k < q.2.2 → parseFieldDescriptor (q.2.1 k).2.2.1 = some (am_ty t k)) ∧ (∀ a, a < q.2.2 → ∀ b, b < q.2.2 → a ≠ b → (q.2.1 a).2.1 ≠ (q.2.1 b).2.1) ∧ q.2.2 = am_N t
theorem am_cs0 : am_cls 0 (RX0, TX0, 8) := ⟨am_u0, by decide +kernel, nmX0, rfl⟩
theorem am_cs1 : am_cls 1 (RX1, TX1, 8) := ⟨am_u1, by decide +kernel, nmX1, rfl⟩
theorem am_cs2 : am_cls 2 (RX2, TX2, 8) := ⟨am_u2, by decide +kernel, nmX2, rfl⟩
theorem am_cs3 : am_cls 3 (RX3, TX3, 8) := ⟨am_u3, by decide +kernel, nmX3, rfl⟩
theorem am_cs4 : am_cls 4 (RX4, TX4, 8) := ⟨am_u4, by decide +kernel, nmX4, rfl⟩
theorem am_cs5 : am_cls 5 (RX5, TX5, 4) := ⟨am_u5, by decide +kernel, nmX5, rfl⟩
theorem am_cs6 : am_cls 6 (RX6, TX6, 8) := ⟨am_u6, by decide +kernel, nmX6, rfl⟩
theorem am_cs7 : am_cls 7 (RX7, TX7, 5) := ⟨am_u7, by decide +kernel, nmX7, rfl⟩
theorem am_cs8 : am_cls 8 (RX8, TX8, 2) := ⟨am_u8, by decide +kernel, nmX8, rfl⟩
theorem am_cs9 : am_cls 9 (RX9, TX9, 8) := ⟨am_u9, by decide +kernel, nmX9, rfl⟩
theorem am_cs10 : am_cls 10 (RX10, TX10, 8) := ⟨am_u10, by decide +kernel, nmX10, rfl⟩
theorem am_cs11 : am_cls 11 (RX11, TX11, 13) := ⟨am_u11, by decide +kernel, nmX11, rfl⟩
theorem am_cs12 : am_cls 12 (RX12, TX12, 37) := ⟨am_u12, by decide +kernel, nmX12, rfl⟩
theorem am_cls_ok : ∀ (t : Nat) (q : vw_C), vwCl[t]? = some q → am_cls t q := by
  intro t q h
  match t, h with
  | 0, h => cases h; exact am_cs0
  | 1, h => cases h; exact am_cs1
  | 2, h => cases h; exact am_cs2
  | 3, h => cases h; exact am_cs3
  | 4, h => cases h; exact am_cs4
  | 5, h => cases h; exact am_cs5
  | 6, h => cases h; exact am_cs6
  | 7, h => cases h; exact am_cs7
  | 8, h => cases h; exact am_cs8
  | 9, h => cases h; exact am_cs9
  | 10, h => cases h; exact am_cs10
  | 11, h => cases h; exact am_cs11
  | 12, h => cases h; exact am_cs12
  | t + 13, h => simp [vwCl] at h
def am_fck (o : Nat) (e : Nat × Nat × List Nat × String × Nat × Nat) : Bool := e.2.2.1.all fun t => match vwCl[t]? with
  | some q => decide (e.2.1 < q.2.2) && (am_w e.2.2.2.2.1 (.fieldLink (am_R o) e.1 e.2.2.2.1 (q.2.1 e.2.1).2.1 (q.2.1 e.2.1).2.2.1) && (decide (e.2.2.2.1 = (q.2.1 e.2.1).1) || am_w e.2.2.2.2.2 (.sameField e.2.2.2.1 (q.2.1 e.2.1).1 (q.2.1 e.2.1).2.1 (q.2.1 e.2.1).2.2.1)))
  | none => false
theorem am_fck_ok : ∀ o, o < 16 → (am_fl o).all (am_fck o) = true := by decide +kernel
def am_nck (o : Nat) (e : Nat × Nat × List Nat) : Bool := match vwCl[e.2.1]?, e.2.2 with
  | some q, [p1, p2, p3] => am_w p1 (.classLink (am_R o) e.1 q.1) && (am_w p2 (.instantiable q.1 q.2.2) && am_w p3 (.initialized q.1))
  | _, _ => false
theorem am_nck_ok : ∀ o, o < 16 → (am_nwl o).all (am_nck o) = true := by decide +kernel
def am_acn (t : Nat) : String := match t with
  | 22 => RX7
  | 23 => RX5
  | 24 => RX1
  | _ => RX8
def am_ack (o : Nat) (e : Nat × Nat × Nat) : Bool := decide (22 ≤ e.2.1 ∧ e.2.1 < 26) && am_w e.2.2 (.classLink (am_R o) e.1 (am_acn e.2.1))
theorem am_ack_ok : ∀ o, o < 16 → (am_anl o).all (am_ack o) = true := by decide +kernel
theorem am_kck_ok : ∀ o, o < 16 → (am_kl o).all (fun e => am_w e.2.2 (.constant (am_R o) e.1 e.2.1)) = true := by decide +kernel
theorem am_k2ck_ok : ∀ o, o < 16 → (am_kl2 o).all (fun e => am_w e.2.2 (.constantLong (am_R o) e.1 e.2.1)) = true := by decide +kernel
/-- a call's row: the words that its mode wants -/
def am_cck (o : Nat) (e : Nat × Nat × Nat × Nat × List Nat × Mth × List Nat) : Bool := match e with
  | (op, i, mode, n, ts, C, ps) =>
    let y := C.2.1
    let cd := Cond.code y C.2.2.1 C.2.2.2.1 C.2.2.2.2
    let plain := plainName y.cls && decide (y.cls ≠ "java/lang/invoke/MethodHandle" ∧ y.cls ≠ "java/lang/invoke/VarHandle") && decide (y.cls = am_R C.1) && decide (C.1 < 16) && decide (C.2.2.2.1 ≤ 60)
    let par := (parseMethodDescriptor y.desc).map (fun d => d.parameters.length)
    match mode, ps with
    | 0, [p1, p2, p3, p4] => decide (op = 2) && am_w p1 (.methodLink (am_R o) i y) && am_w p2 (.static y) && am_w p3 (.initialized y.cls) && am_w p4 cd && plain && decide (par = some n)
    | 1, [p2, p3, p4] => decide (op = 2) && decide ((o, i) = (8, 25) ∨ (o, i) = (7, 38)) && decide (y = yX11_within) && am_w p2 (.static y) && am_w p3 (.initialized y.cls) && am_w p4 cd && plain && decide (par = some n)
    | 2, [p1, p2, p3, p4, p5] => decide (op = 0) && am_w p1 (.methodLink (am_R o) i y) && am_w p2 (.instanceMethod y) && am_w p3 (.selects y.cls y y) && am_w p4 (.initialized y.cls) && am_w p5 cd && plain && decide (par.map (· + 1) = some n) && ts.all (fun t => decide ((vwCl[t]?).map (fun q => q.1) = some y.cls))
    | 3, p1 :: p2 :: p3 :: p4 :: p5 :: ps => decide (op = 0) && am_w p1 (.methodLink (am_R o) i y) && am_w p2 (.sameMethod y.cls y.cls y.name y.desc) && am_w p3 (.instanceMethod y) && am_w p4 (.initialized y.cls) && am_w p5 cd && plain && decide (par.map (· + 1) = some n) && decide (ts.length = ps.length) && (ts.zip ps).all (fun q => match vwCl[q.1]? with
        | some r => am_w q.2 (.selects r.1 y y)
        | none => false)
    | 4, [p1, p2, p3, p4] => decide (op = 1) && am_w p1 (.methodLink (am_R o) i y) && am_w p2 (.instanceMethod y) && am_w p3 (.initialized y.cls) && am_w p4 cd && plain && decide (y.name = "<init>") && decide (C.2.2.2.2 = none) && decide (par.map (· + 1) = some n)
    | 5, [p1, p2, p3] => decide (op = 1) && am_w p1 (.methodLink (am_R o) i objectInit) && am_w p2 (.instanceMethod objectInit) && am_w p3 (.code objectInit ⟨#[0xb1]⟩ 1 none) && decide (n = 1)
    | 6, [p1, p2, p3, p4] => decide (op = 2) && am_w p1 (.methodLink (am_R o) i Lib.Math.max.name) && am_w p2 (.static Lib.Math.max.name) && am_w p3 (.initialized "java/lang/Math") && am_w p4 (.code Lib.Math.max.name Lib.Math.max.code 2 (some .int)) && decide (n = 2)
    | 7, [p1, p2, p3, p4] => decide (op = 2) && am_w p1 (.methodLink (am_R o) i Lib.Math.min.name) && am_w p2 (.static Lib.Math.min.name) && am_w p3 (.initialized "java/lang/Math") && am_w p4 (.code Lib.Math.min.name Lib.Math.min.code 2 (some .int)) && decide (n = 2)
    | 8, [p1, p2, p3, p4] => decide (op = 2) && am_w p1 (.methodLink (am_R o) i Lib.Math.abs.name) && am_w p2 (.static Lib.Math.abs.name) && am_w p3 (.initialized "java/lang/Math") && am_w p4 (.code Lib.Math.abs.name Lib.Math.abs.code 1 (some .int)) && decide (n = 1)
    | 9, [p1, p2, p3, p4] => decide (op = 2) && am_w p1 (.methodLink (am_R o) i arraycopyName) && am_w p2 (.native arraycopyName) && am_w p3 (.static arraycopyName) && am_w p4 (.initialized "java/lang/System") && decide (n = 5)
    | 10, [] => decide ((o, op, n) = (13, 0, 2)) && decide (C = mX11_toss)
    | 11, [] => decide ((o, op, n) = (13, 2, 4)) && decide (C = mL_element)
    | _, _ => false

theorem am_cq0_0 : am_cl0_0.all (am_cck 0) = true := by decide +kernel
theorem am_cq1_0 : am_cl1_0.all (am_cck 1) = true := by decide +kernel
theorem am_cq1_1 : am_cl1_1.all (am_cck 1) = true := by decide +kernel
theorem am_cq2_0 : am_cl2_0.all (am_cck 2) = true := by decide +kernel
theorem am_cq3_0 : am_cl3_0.all (am_cck 3) = true := by decide +kernel
theorem am_cq4_0 : am_cl4_0.all (am_cck 4) = true := by decide +kernel
theorem am_cq5_0 : am_cl5_0.all (am_cck 5) = true := by decide +kernel
theorem am_cq5_1 : am_cl5_1.all (am_cck 5) = true := by decide +kernel
theorem am_cq6_0 : am_cl6_0.all (am_cck 6) = true := by decide +kernel
theorem am_cq7_0 : am_cl7_0.all (am_cck 7) = true := by decide +kernel
theorem am_cq7_1 : am_cl7_1.all (am_cck 7) = true := by decide +kernel
theorem am_cq7_2 : am_cl7_2.all (am_cck 7) = true := by decide +kernel
theorem am_cq7_3 : am_cl7_3.all (am_cck 7) = true := by decide +kernel
theorem am_cq8_0 : am_cl8_0.all (am_cck 8) = true := by decide +kernel
theorem am_cq9_0 : am_cl9_0.all (am_cck 9) = true := by decide +kernel
theorem am_cq10_0 : am_cl10_0.all (am_cck 10) = true := by decide +kernel
theorem am_cq11_0 : am_cl11_0.all (am_cck 11) = true := by decide +kernel
theorem am_cq11_1 : am_cl11_1.all (am_cck 11) = true := by decide +kernel
theorem am_cq11_2 : am_cl11_2.all (am_cck 11) = true := by decide +kernel
theorem am_cq11_3 : am_cl11_3.all (am_cck 11) = true := by decide +kernel
theorem am_cq11_4 : am_cl11_4.all (am_cck 11) = true := by decide +kernel
theorem am_cq11_5 : am_cl11_5.all (am_cck 11) = true := by decide +kernel
theorem am_cq11_6 : am_cl11_6.all (am_cck 11) = true := by decide +kernel
theorem am_cq11_7 : am_cl11_7.all (am_cck 11) = true := by decide +kernel
theorem am_cq11_8 : am_cl11_8.all (am_cck 11) = true := by decide +kernel
theorem am_cq12_0 : am_cl12_0.all (am_cck 12) = true := by decide +kernel
theorem am_cq12_1 : am_cl12_1.all (am_cck 12) = true := by decide +kernel
theorem am_cq12_2 : am_cl12_2.all (am_cck 12) = true := by decide +kernel
theorem am_cq12_3 : am_cl12_3.all (am_cck 12) = true := by decide +kernel
theorem am_cq12_4 : am_cl12_4.all (am_cck 12) = true := by decide +kernel
theorem am_cq12_5 : am_cl12_5.all (am_cck 12) = true := by decide +kernel
theorem am_cq12_6 : am_cl12_6.all (am_cck 12) = true := by decide +kernel
theorem am_cq12_7 : am_cl12_7.all (am_cck 12) = true := by decide +kernel
theorem am_cq13_0 : am_cl13_0.all (am_cck 13) = true := by decide +kernel
theorem am_cq13_1 : am_cl13_1.all (am_cck 13) = true := by decide +kernel
theorem am_cq13_2 : am_cl13_2.all (am_cck 13) = true := by decide +kernel
theorem am_cq13_3 : am_cl13_3.all (am_cck 13) = true := by decide +kernel
theorem am_cq13_4 : am_cl13_4.all (am_cck 13) = true := by decide +kernel
theorem am_cq13_5 : am_cl13_5.all (am_cck 13) = true := by decide +kernel
theorem am_cq13_6 : am_cl13_6.all (am_cck 13) = true := by decide +kernel
theorem am_cq13_7 : am_cl13_7.all (am_cck 13) = true := by decide +kernel
theorem am_cq13_8 : am_cl13_8.all (am_cck 13) = true := by decide +kernel
theorem am_cq13_9 : am_cl13_9.all (am_cck 13) = true := by decide +kernel
theorem am_cck_ok : ∀ o, (am_cl o).all (am_cck o) = true := by
  intro o
  match o with
  | 0 => simp only [am_cl, List.all_append, Bool.and_eq_true, Bool.and_true]; exact am_cq0_0
  | 1 => simp only [am_cl, List.all_append, Bool.and_eq_true, Bool.and_true]; exact ⟨am_cq1_0, am_cq1_1⟩
  | 2 => simp only [am_cl, List.all_append, Bool.and_eq_true, Bool.and_true]; exact am_cq2_0
  | 3 => simp only [am_cl, List.all_append, Bool.and_eq_true, Bool.and_true]; exact am_cq3_0
  | 4 => simp only [am_cl, List.all_append, Bool.and_eq_true, Bool.and_true]; exact am_cq4_0
  | 5 => simp only [am_cl, List.all_append, Bool.and_eq_true, Bool.and_true]; exact ⟨am_cq5_0, am_cq5_1⟩
  | 6 => simp only [am_cl, List.all_append, Bool.and_eq_true, Bool.and_true]; exact am_cq6_0
  | 7 => simp only [am_cl, List.all_append, Bool.and_eq_true, Bool.and_true]; exact ⟨am_cq7_0, ⟨am_cq7_1, ⟨am_cq7_2, am_cq7_3⟩⟩⟩
  | 8 => simp only [am_cl, List.all_append, Bool.and_eq_true, Bool.and_true]; exact am_cq8_0
  | 9 => simp only [am_cl, List.all_append, Bool.and_eq_true, Bool.and_true]; exact am_cq9_0
  | 10 => simp only [am_cl, List.all_append, Bool.and_eq_true, Bool.and_true]; exact am_cq10_0
  | 11 => simp only [am_cl, List.all_append, Bool.and_eq_true, Bool.and_true]; exact ⟨am_cq11_0, ⟨am_cq11_1, ⟨am_cq11_2, ⟨am_cq11_3, ⟨am_cq11_4, ⟨am_cq11_5, ⟨am_cq11_6, ⟨am_cq11_7, am_cq11_8⟩⟩⟩⟩⟩⟩⟩⟩
  | 12 => simp only [am_cl, List.all_append, Bool.and_eq_true, Bool.and_true]; exact ⟨am_cq12_0, ⟨am_cq12_1, ⟨am_cq12_2, ⟨am_cq12_3, ⟨am_cq12_4, ⟨am_cq12_5, ⟨am_cq12_6, am_cq12_7⟩⟩⟩⟩⟩⟩⟩
  | 13 => simp only [am_cl, List.all_append, Bool.and_eq_true, Bool.and_true]; exact ⟨am_cq13_0, ⟨am_cq13_1, ⟨am_cq13_2, ⟨am_cq13_3, ⟨am_cq13_4, ⟨am_cq13_5, ⟨am_cq13_6, ⟨am_cq13_7, ⟨am_cq13_8, am_cq13_9⟩⟩⟩⟩⟩⟩⟩⟩⟩
  | 14 => rfl
  | 15 => rfl
  | n + 16 => rfl
end
section
/-! the small machine's steps are the machine's: states -/
abbrev am_D : Type := (Nat → ClassId) × (Nat → Nat → Nat) × (Nat → ClassId)
def am_at (D : am_D) (a t : Nat) (fs : List Value) (H : Heap) : Prop := (∃ q : vw_C, vwCl[t]? = some q ∧ fs.length = q.2.2 ∧ t_OB a (D.1 t) q.2.2 (D.2.1 t) H (vp_V fs)) ∨ ((20 ≤ t ∧ t < 26) ∧ H[a]? = some (arrV (D.2.2 t) fs.length (vp_V fs)))
def am_P (D : am_D) (B : Nat) (h : Hp) (H : Heap) : Prop := H.size = h.2.1 ∧ B ≤ h.2.1 ∧ ∀ (a t : Nat) (fs : List Value), h.1 a = some (t, fs) → am_at D a t fs H
def am_K (D : am_D) (U : State) : Prop :=
  (∀ (c : Nat) (q : vw_C), vwCl[c]? = some q → u_Kn U q.1 q.2.1 q.2.2 (D.1 c) (D.2.1 c)) ∧
  (∀ t : Nat, 20 ≤ t → t < 26 → ArrOfT U (D.2.2 t) (am_aty t) ∧ va_RA U (D.2.2 t) (am_aty t)) ∧
  (va_Nw (.methodLinkNest RX8 25 yX11_within RX11) U ∧ va_Nw (.methodLinkNest RX7 38 yX11_within RX11) U) ∧
  (∀ t : Nat, 22 ≤ t → t < 26 → va_AO (am_acn t) U) ∧
  (∀ t ∈ [0, 1, 2, 3, 4, 6, 9, 10], U.vm.assignable (D.1 t) (D.1 1) = true)
theorem am_K.moved {D : am_D} {u U : State} (hW : u.WarmedH U.vm) (h : am_K D u) : am_K D U := by
  obtain ⟨h1, h2, h3, h4, h5⟩ := h
  exact ⟨fun c q hq => u_Kn_moved hW.alike (h1 c q hq), fun t a b => ⟨arrOfT_moved hW.alike (h2 t a b).1, (h2 t a b).2.moved hW.alike⟩, ⟨h3.1.warmM hW, h3.2.warmM hW⟩, fun t a b => (h4 t a b).moved hW.alike, fun t ht => by rw [hW.alike.assignable]; exact h5 t ht⟩
theorem am_lt13 {t : Nat} {q : vw_C} (h : vwCl[t]? = some q) : t < 13 := (List.getElem?_eq_some_iff.mp h).1
theorem am_at.kept {D : am_D} {a t : Nat} {fs : List Value} {H H1 : Heap} (h : am_at D a t fs H) (hq : H1[a]? = H[a]?) : am_at D a t fs H1 := by
  rcases h with ⟨q, h1, h2, h3⟩ | ⟨h1, h2⟩
  · exact Or.inl ⟨q, h1, h2, h3.kept hq⟩
  · exact Or.inr ⟨h1, hq.trans h2⟩
theorem am_at.lt {D : am_D} {a t : Nat} {fs : List Value} {H : Heap} (h : am_at D a t fs H) : a < H.size := by
  rcases h with ⟨q, h1, h2, cell, h3, -⟩ | ⟨h1, h2⟩
  · exact (Array.getElem?_eq_some_iff.mp h3).1
  · exact (Array.getElem?_eq_some_iff.mp h2).1
theorem am_P.put {D : am_D} {B : Nat} {h : Hp} {H H1 : Heap} {a t : Nat} {fs : List Value} (hP : am_P D B h H) (z : H1.size = H.size) (oq : ∀ q, q ≠ a → H1[q]? = H[q]?) (he : am_at D a t fs H1) : am_P D B (am_put h a (t, fs)) H1 := by
  refine ⟨z.trans hP.1, hP.2.1, fun b t2 f2 hb => ?_⟩
  by_cases hab : b = a
  · subst hab
    have : some (t, fs) = some (t2, f2) := by rw [← hb]; simp [am_put]
    cases this
    exact he
  · have : h.1 b = some (t2, f2) := by rw [← hb]; simp [am_put, hab]
    exact (hP.2.2 b t2 f2 this).kept (oq b hab)
theorem am_P.new {D : am_D} {B : Nat} {h : Hp} {H H1 : Heap} {t n : Nat} {fs : List Value} (hP : am_P D B h H) (z : H1.size = H.size + 1) (oq : ∀ q, q < H.size → H1[q]? = H[q]?) (he : am_at D H.size t fs H1) : am_P D B (am_new h (t, fs) n) H1 := by
  refine ⟨by rw [z, hP.1]; rfl, Nat.le_succ_of_le hP.2.1, fun b t2 f2 hb => ?_⟩
  by_cases hab : b = h.2.1
  · have : some (t, fs) = some (t2, f2) := by rw [← hb]; simp [am_new, hab]
    cases this
    rw [hab, ← hP.1]
    exact he
  · have : h.1 b = some (t2, f2) := by rw [← hb]; simp [am_new, hab]
    have h2 := hP.2.2 b t2 f2 this
    exact h2.kept (oq b h2.lt)
theorem am_arr {cA : ClassId} {N : Nat} {f g : Nat → Value} (h : ∀ j, j < N → f j = g j) : arrV cA N f = arrV cA N g := by
  unfold arrV
  congr 2
  funext j
  exact h j.val j.isLt
theorem am_vV {fs : List Value} {k : Nat} {v : Value} (h : fs[k]? = some v) : vp_V fs k = v := by
  simp [vp_V, List.getD_eq_getElem?_getD, h]
theorem am_set {fs : List Value} {k : Nat} {cA : ClassId} (v : Value) (hk : k < fs.length) : (arrV cA fs.length (vp_V fs)).setSlot k v = arrV cA (fs.set k v).length (vp_V (fs.set k v)) := by
  rw [arrV_store, List.length_set]
  exact am_arr fun j _ => vp_updV_set hk v j
/-! locals -/
def am_lv (ls : Array Slot) (nL : Nat) (L : List Value) : Prop := ls.size = nL ∧ lv_wf ls ∧ L.length = nL ∧ ∀ (i : Nat) (v : Value), L[i]? = some v → (∀ z, v ≠ .retAddr z) → ls[i]? = some (.val v)
def am_ps (L : List Value) : List (Nat × Value) := L.zipIdx.filterMap (fun q => match q.1 with
  | .retAddr _ => none
  | v => some (q.2, v))
theorem am_ps_of {L : List Value} {i : Nat} {v : Value} (h : L[i]? = some v) (hv : ∀ z, v ≠ .retAddr z) : (i, v) ∈ am_ps L := by
  refine List.mem_filterMap.mpr ⟨(v, i), ?_, ?_⟩
  · exact List.mem_zipIdx_iff_getElem?.mpr h
  · cases v <;> first | rfl | exact absurd rfl (hv _)
theorem am_ps_to {L : List Value} {q : Nat × Value} (h : q ∈ am_ps L) : L[q.1]? = some q.2 ∧ ∀ z, q.2 ≠ .retAddr z := by
  obtain ⟨⟨v, i⟩, h1, h2⟩ := List.mem_filterMap.mp h
  have h3 := List.mem_zipIdx_iff_getElem?.mp h1
  cases v <;> first | (cases h2; exact ⟨h3, fun z hz => by cases hz⟩) | cases h2
theorem am_lv.has {ls : Array Slot} {nL : Nat} {L : List Value} (h : am_lv ls nL L) : lv_has ls nL (am_ps L) := ⟨h.1, h.2.1, fun q hq => h.2.2.2 q.1 q.2 (am_ps_to hq).1 (am_ps_to hq).2⟩
theorem am_lv.get {ls : Array Slot} {nL i : Nat} {L : List Value} {v : Value} (h : am_lv ls nL L) (hi : L[i]? = some v) (hv : ∀ z, v ≠ .retAddr z) : ls[i]? = some (.val v) := h.2.2.2 i v hi hv
theorem am_clr_len (L : List Value) (i : Nat) : (am_clr L i).length = L.length := by
  cases i with
  | zero => rfl
  | succ j =>
    simp only [am_clr]
    split
    · split <;> simp
    · rfl
/-- behind the clearing of a long that ends at i -/
theorem am_clr_get {L : List Value} {i j : Nat} {w : Value} (h : (am_clr L i)[j]? = some w) (hw : ∀ z, w ≠ .retAddr z) : L[j]? = some w ∧ ¬ (j + 1 = i ∧ w.category = 2) := by
  cases i with
  | zero => exact ⟨h, by omega⟩
  | succ k =>
    simp only [am_clr] at h
    split at h
    · rename_i u hu
      split at h
      · by_cases hjk : j = k
        · subst hjk
          have hlt : j < L.length := (List.getElem?_eq_some_iff.mp hu).1
          rw [List.getElem?_set_self hlt] at h
          cases h
          exact absurd rfl (hw _)
        · rw [List.getElem?_set_ne (Ne.symm hjk)] at h
          exact ⟨h, by omega⟩
      · rename_i hc
        refine ⟨h, fun q => ?_⟩
        have : j = k := by omega
        subst this
        rw [hu] at h
        cases h
        exact hc q.2
    · rename_i hn
      refine ⟨h, fun q => ?_⟩
      have : j = k := by omega
      subst this
      rw [hn] at h
      cases h
theorem am_st1_lv {ls' : Array Slot} {nL i : Nat} {L : List Value} {v : Value} (hlen : L.length = nL) (h : lv_has ls' nL ((i, v) :: (am_ps L).filter (fun q => !(q.1 == i) && !(q.1 + 1 == i && q.2.category == 2)))) : am_lv ls' nL (am_st1 L i v) := by
  refine ⟨h.1, h.2.1, by rw [am_st1, List.length_set, am_clr_len, hlen], fun j w hj hw => ?_⟩
  unfold am_st1 at hj
  by_cases hji : j = i
  · subst hji
    have hlt : j < (am_clr L j).length := by
      have := (List.getElem?_eq_some_iff.mp hj).1
      rwa [List.length_set] at this
    rw [List.getElem?_set_self hlt] at hj
    cases hj
    exact h.2.2 (j, v) List.mem_cons_self
  · rw [List.getElem?_set_ne (Ne.symm hji)] at hj
    obtain ⟨h1, h2⟩ := am_clr_get hj hw
    refine h.2.2 (j, w) (List.mem_cons_of_mem _ (List.mem_filter.mpr ⟨am_ps_of h1 hw, ?_⟩))
    simp only [Bool.and_eq_true, Bool.not_eq_true', beq_eq_false_iff_ne, ne_eq, Bool.and_eq_false_iff]
    refine ⟨hji, ?_⟩
    by_cases q1 : j + 1 = i
    · exact Or.inr (fun q2 => h2 ⟨q1, q2⟩)
    · exact Or.inl q1
theorem am_st2_lv {ls' : Array Slot} {nL i : Nat} {L : List Value} {v : Value} (hlen : L.length = nL) (h : lv_has ls' nL ((i, v) :: (am_ps L).filter (fun q => !(q.1 == i) && (!(q.1 == i + 1) && !(q.1 + 1 == i && q.2.category == 2))))) : am_lv ls' nL (am_st2 L i v) := by
  refine ⟨h.1, h.2.1, by rw [am_st2, List.length_set, List.length_set, am_clr_len, hlen], fun j w hj hw => ?_⟩
  unfold am_st2 at hj
  by_cases hj1 : j = i + 1
  · subst hj1
    have hlt : i + 1 < ((am_clr L i).set i v).length := by
      have := (List.getElem?_eq_some_iff.mp hj).1
      rwa [List.length_set] at this
    rw [List.getElem?_set_self hlt] at hj
    cases hj
    exact absurd rfl (hw _)
  · rw [List.getElem?_set_ne (Ne.symm hj1)] at hj
    by_cases hji : j = i
    · subst hji
      have hlt : j < (am_clr L j).length := by
        have := (List.getElem?_eq_some_iff.mp hj).1
        rwa [List.length_set] at this
      rw [List.getElem?_set_self hlt] at hj
      cases hj
      exact h.2.2 (j, v) List.mem_cons_self
    · rw [List.getElem?_set_ne (Ne.symm hji)] at hj
      obtain ⟨h1, h2⟩ := am_clr_get hj hw
      refine h.2.2 (j, w) (List.mem_cons_of_mem _ (List.mem_filter.mpr ⟨am_ps_of h1 hw, ?_⟩))
      simp only [Bool.and_eq_true, Bool.not_eq_true', beq_eq_false_iff_ne, ne_eq, Bool.and_eq_false_iff]
      refine ⟨hji, hj1, ?_⟩
      by_cases q1 : j + 1 = i
      · exact Or.inr (fun q2 => h2 ⟨q1, q2⟩)
      · exact Or.inl q1
theorem am_tg_eq {pc : Nat} {off : Int} (h : am_tok pc off = true) : (pc : Int) + off = (am_tg pc off : Int) := by
  unfold am_tok at h
  have := of_decide_eq_true h
  unfold am_tg
  omega
/-- what stands fast while a method runs -/
def am_Cx (D : am_D) (p : Program) (s : State) (m : MethodId) (args : Array Value) (meth : Method) (c : Code) (M : Mth) : Prop :=
  p.tables.exec = Jvm.exec ∧ c.code = M.2.2.1 ∧ c.maxLocals = M.2.2.2.1 ∧ meth.sig.returnType = M.2.2.2.2 ∧ meth.locks = false ∧ s.vm.findClass (am_R M.1) = some m.cls ∧ (∀ w ∈ lw_good, w.before args s = true) ∧ am_K D s ∧ meth.name = M.2.1.name ∧ M.1 < 16
/-- the real machine, wherever the small one stands at pc, comes to Q -/
def am_V (p : Program) (l : Launch) (e : Env) (R : Room) (s : State) (m : MethodId) (args : Array Value) (below : List Frame) (meth : Method) (c : Code) (Q : State → Prop) (D : am_D) (B : Nat) (M : Mth) (cells slots pc : Nat) (L S : List Value) (h : Hp) : Prop :=
  ∀ (H : Heap) (locs : List Loc) (ls : Array Slot), am_P D B h H → am_lv ls M.2.2.2.1 L → (∀ q ∈ locs, B ≤ q.base) → W p l e R s m args below meth c H locs cells slots Q (F0 m pc ls S)
end
section
/-! the small machine's steps are the machine's: one law an instruction -/
theorem am_ac20 : Cond.arrayClass (newarray.typeOf .int) ∈ lw_good := am_w_in (p := 214) (by decide +kernel)
theorem am_ac21 : Cond.arrayClass (newarray.typeOf .long) ∈ lw_good := am_w_in (p := 1160) (by decide +kernel)
section STEP
variable {p : Program} {l : Launch} {e : Env} {R : Room} {s : State} {m : MethodId} {args : Array Value} {below : List Frame} {meth : Method} {c : Code} {Q : State → Prop} {D : am_D} {B : Nat} {M : Mth} {cells slots pc : Nat} {L S : List Value} {h : Hp}
theorem am_v_iconst (X : am_Cx D p s m args meth c M) {n : Int} (hdg : decode M.2.2.1 pc = .ok (.iconst n, 1)) (k : am_V p l e R s m args below meth c Q D B M cells slots (pc + 1) L (.int (Int32.ofInt n) :: S) h) : am_V p l e R s m args below meth c Q D B M cells slots pc L S h := by
  obtain ⟨hx, hb, hml, hr, hlk, hown, hts, hK, hnm, hM⟩ := X
  intro H locs ls hP hL hF
  exact lv_iconst hx hb hdg rfl (k H locs ls hP hL hF)
theorem am_v_bipush (X : am_Cx D p s m args meth c M) {n : Int} (hdg : decode M.2.2.1 pc = .ok (.bipush n, 2)) (k : am_V p l e R s m args below meth c Q D B M cells slots (pc + 2) L (.int (Int8.ofInt n).toInt32 :: S) h) : am_V p l e R s m args below meth c Q D B M cells slots pc L S h := by
  obtain ⟨hx, hb, hml, hr, hlk, hown, hts, hK, hnm, hM⟩ := X
  intro H locs ls hP hL hF
  exact lv_bipush hx hb hdg rfl (k H locs ls hP hL hF)
theorem am_v_sipush (X : am_Cx D p s m args meth c M) {n : Int} (hdg : decode M.2.2.1 pc = .ok (.sipush n, 3)) (k : am_V p l e R s m args below meth c Q D B M cells slots (pc + 3) L (.int (Int16.ofInt n).toInt32 :: S) h) : am_V p l e R s m args below meth c Q D B M cells slots pc L S h := by
  obtain ⟨hx, hb, hml, hr, hlk, hown, hts, hK, hnm, hM⟩ := X
  intro H locs ls hP hL hF
  exact lv_sipush hx hb hdg rfl (k H locs ls hP hL hF)
theorem am_v_lconst (X : am_Cx D p s m args meth c M) {n : Fin 2} (hdg : decode M.2.2.1 pc = .ok (.lconst n, 1)) (k : am_V p l e R s m args below meth c Q D B M cells slots (pc + 1) L (.long (Int64.ofNat (n : Nat)) :: S) h) : am_V p l e R s m args below meth c Q D B M cells slots pc L S h := by
  obtain ⟨hx, hb, hml, hr, hlk, hown, hts, hK, hnm, hM⟩ := X
  intro H locs ls hP hL hF
  exact lv_lconst hx hb hdg rfl (k H locs ls hP hL hF)
theorem am_v_aconst_null (X : am_Cx D p s m args meth c M)  (hdg : decode M.2.2.1 pc = .ok (.aconst_null, 1)) (k : am_V p l e R s m args below meth c Q D B M cells slots (pc + 1) L (.null :: S) h) : am_V p l e R s m args below meth c Q D B M cells slots pc L S h := by
  obtain ⟨hx, hb, hml, hr, hlk, hown, hts, hK, hnm, hM⟩ := X
  intro H locs ls hP hL hF
  exact lv_null hx hb hdg (k H locs ls hP hL hF)
theorem am_v_iadd (X : am_Cx D p s m args meth c M) {x y : Int32} (hdg : decode M.2.2.1 pc = .ok (.iadd, 1)) (k : am_V p l e R s m args below meth c Q D B M cells slots (pc + 1) L (.int (x + y) :: S) h) : am_V p l e R s m args below meth c Q D B M cells slots pc L (.int y :: .int x :: S) h := by
  obtain ⟨hx, hb, hml, hr, hlk, hown, hts, hK, hnm, hM⟩ := X
  intro H locs ls hP hL hF
  exact lv_iadd hx hb hdg (k H locs ls hP hL hF)
theorem am_v_isub (X : am_Cx D p s m args meth c M) {x y : Int32} (hdg : decode M.2.2.1 pc = .ok (.isub, 1)) (k : am_V p l e R s m args below meth c Q D B M cells slots (pc + 1) L (.int (x - y) :: S) h) : am_V p l e R s m args below meth c Q D B M cells slots pc L (.int y :: .int x :: S) h := by
  obtain ⟨hx, hb, hml, hr, hlk, hown, hts, hK, hnm, hM⟩ := X
  intro H locs ls hP hL hF
  exact lv_isub hx hb hdg (k H locs ls hP hL hF)
theorem am_v_imul (X : am_Cx D p s m args meth c M) {x y : Int32} (hdg : decode M.2.2.1 pc = .ok (.imul, 1)) (k : am_V p l e R s m args below meth c Q D B M cells slots (pc + 1) L (.int (x * y) :: S) h) : am_V p l e R s m args below meth c Q D B M cells slots pc L (.int y :: .int x :: S) h := by
  obtain ⟨hx, hb, hml, hr, hlk, hown, hts, hK, hnm, hM⟩ := X
  intro H locs ls hP hL hF
  exact lv_imul hx hb hdg (k H locs ls hP hL hF)
theorem am_v_iand (X : am_Cx D p s m args meth c M) {x y : Int32} (hdg : decode M.2.2.1 pc = .ok (.iand, 1)) (k : am_V p l e R s m args below meth c Q D B M cells slots (pc + 1) L (.int (x &&& y) :: S) h) : am_V p l e R s m args below meth c Q D B M cells slots pc L (.int y :: .int x :: S) h := by
  obtain ⟨hx, hb, hml, hr, hlk, hown, hts, hK, hnm, hM⟩ := X
  intro H locs ls hP hL hF
  exact lv_iand hx hb hdg (k H locs ls hP hL hF)
theorem am_v_ior (X : am_Cx D p s m args meth c M) {x y : Int32} (hdg : decode M.2.2.1 pc = .ok (.ior, 1)) (k : am_V p l e R s m args below meth c Q D B M cells slots (pc + 1) L (.int (x ||| y) :: S) h) : am_V p l e R s m args below meth c Q D B M cells slots pc L (.int y :: .int x :: S) h := by
  obtain ⟨hx, hb, hml, hr, hlk, hown, hts, hK, hnm, hM⟩ := X
  intro H locs ls hP hL hF
  exact lv_ior hx hb hdg (k H locs ls hP hL hF)
theorem am_v_ishl (X : am_Cx D p s m args meth c M) {x y : Int32} (hdg : decode M.2.2.1 pc = .ok (.ishl, 1)) (k : am_V p l e R s m args below meth c Q D B M cells slots (pc + 1) L (.int (x <<< (y &&& 31)) :: S) h) : am_V p l e R s m args below meth c Q D B M cells slots pc L (.int y :: .int x :: S) h := by
  obtain ⟨hx, hb, hml, hr, hlk, hown, hts, hK, hnm, hM⟩ := X
  intro H locs ls hP hL hF
  exact lv_ishl hx hb hdg (k H locs ls hP hL hF)
theorem am_v_ishr (X : am_Cx D p s m args meth c M) {x y : Int32} (hdg : decode M.2.2.1 pc = .ok (.ishr, 1)) (k : am_V p l e R s m args below meth c Q D B M cells slots (pc + 1) L (.int (x >>> (y &&& 31)) :: S) h) : am_V p l e R s m args below meth c Q D B M cells slots pc L (.int y :: .int x :: S) h := by
  obtain ⟨hx, hb, hml, hr, hlk, hown, hts, hK, hnm, hM⟩ := X
  intro H locs ls hP hL hF
  exact lv_ishr hx hb hdg (k H locs ls hP hL hF)
theorem am_v_iushr (X : am_Cx D p s m args meth c M) {x y : Int32} (hdg : decode M.2.2.1 pc = .ok (.iushr, 1)) (k : am_V p l e R s m args below meth c Q D B M cells slots (pc + 1) L (.int (x.toUInt32 >>> (y.toUInt32 &&& Int32.toUInt32 31)).toInt32 :: S) h) : am_V p l e R s m args below meth c Q D B M cells slots pc L (.int y :: .int x :: S) h := by
  obtain ⟨hx, hb, hml, hr, hlk, hown, hts, hK, hnm, hM⟩ := X
  intro H locs ls hP hL hF
  exact lv_iushr hx hb hdg rfl (k H locs ls hP hL hF)
theorem am_v_idiv (X : am_Cx D p s m args meth c M) {x y : Int32} (hne : ¬ y = 0) (hdg : decode M.2.2.1 pc = .ok (.idiv, 1)) (k : am_V p l e R s m args below meth c Q D B M cells slots (pc + 1) L (.int (x / y) :: S) h) : am_V p l e R s m args below meth c Q D B M cells slots pc L (.int y :: .int x :: S) h := by
  obtain ⟨hx, hb, hml, hr, hlk, hown, hts, hK, hnm, hM⟩ := X
  intro H locs ls hP hL hF
  exact lv_idiv hx hb hdg hne (k H locs ls hP hL hF)
theorem am_v_irem (X : am_Cx D p s m args meth c M) {x y : Int32} (hne : ¬ y = 0) (hdg : decode M.2.2.1 pc = .ok (.irem, 1)) (k : am_V p l e R s m args below meth c Q D B M cells slots (pc + 1) L (.int (x - x / y * y) :: S) h) : am_V p l e R s m args below meth c Q D B M cells slots pc L (.int y :: .int x :: S) h := by
  obtain ⟨hx, hb, hml, hr, hlk, hown, hts, hK, hnm, hM⟩ := X
  intro H locs ls hP hL hF
  exact lv_irem hx hb hdg hne (k H locs ls hP hL hF)
theorem am_v_ineg (X : am_Cx D p s m args meth c M) {x : Int32} (hdg : decode M.2.2.1 pc = .ok (.ineg, 1)) (k : am_V p l e R s m args below meth c Q D B M cells slots (pc + 1) L (.int (-x) :: S) h) : am_V p l e R s m args below meth c Q D B M cells slots pc L (.int x :: S) h := by
  obtain ⟨hx, hb, hml, hr, hlk, hown, hts, hK, hnm, hM⟩ := X
  intro H locs ls hP hL hF
  exact lv_ineg hx hb hdg (k H locs ls hP hL hF)
theorem am_v_ladd (X : am_Cx D p s m args meth c M) {x y : Int64} (hdg : decode M.2.2.1 pc = .ok (.ladd, 1)) (k : am_V p l e R s m args below meth c Q D B M cells slots (pc + 1) L (.long (x + y) :: S) h) : am_V p l e R s m args below meth c Q D B M cells slots pc L (.long y :: .long x :: S) h := by
  obtain ⟨hx, hb, hml, hr, hlk, hown, hts, hK, hnm, hM⟩ := X
  intro H locs ls hP hL hF
  exact lv_ladd hx hb hdg (k H locs ls hP hL hF)
theorem am_v_lmul (X : am_Cx D p s m args meth c M) {x y : Int64} (hdg : decode M.2.2.1 pc = .ok (.lmul, 1)) (k : am_V p l e R s m args below meth c Q D B M cells slots (pc + 1) L (.long (x * y) :: S) h) : am_V p l e R s m args below meth c Q D B M cells slots pc L (.long y :: .long x :: S) h := by
  obtain ⟨hx, hb, hml, hr, hlk, hown, hts, hK, hnm, hM⟩ := X
  intro H locs ls hP hL hF
  exact lv_lmul hx hb hdg (k H locs ls hP hL hF)
theorem am_v_ldiv (X : am_Cx D p s m args meth c M) {x y : Int64} (hne : ¬ y = 0) (hdg : decode M.2.2.1 pc = .ok (.ldiv, 1)) (k : am_V p l e R s m args below meth c Q D B M cells slots (pc + 1) L (.long (x / y) :: S) h) : am_V p l e R s m args below meth c Q D B M cells slots pc L (.long y :: .long x :: S) h := by
  obtain ⟨hx, hb, hml, hr, hlk, hown, hts, hK, hnm, hM⟩ := X
  intro H locs ls hP hL hF
  exact lv_ldiv hx hb hdg hne (k H locs ls hP hL hF)
theorem am_v_lrem (X : am_Cx D p s m args meth c M) {x y : Int64} (hne : ¬ y = 0) (hdg : decode M.2.2.1 pc = .ok (.lrem, 1)) (k : am_V p l e R s m args below meth c Q D B M cells slots (pc + 1) L (.long (x - x / y * y) :: S) h) : am_V p l e R s m args below meth c Q D B M cells slots pc L (.long y :: .long x :: S) h := by
  obtain ⟨hx, hb, hml, hr, hlk, hown, hts, hK, hnm, hM⟩ := X
  intro H locs ls hP hL hF
  exact lv_lrem hx hb hdg hne (k H locs ls hP hL hF)
theorem am_v_lcmp (X : am_Cx D p s m args meth c M) {x y : Int64} (hdg : decode M.2.2.1 pc = .ok (.lcmp, 1)) (k : am_V p l e R s m args below meth c Q D B M cells slots (pc + 1) L (.int (lg_cmp x y) :: S) h) : am_V p l e R s m args below meth c Q D B M cells slots pc L (.long y :: .long x :: S) h := by
  obtain ⟨hx, hb, hml, hr, hlk, hown, hts, hK, hnm, hM⟩ := X
  intro H locs ls hP hL hF
  exact W.lcmp hx hb hdg (k H locs ls hP hL hF)
theorem am_v_i2l (X : am_Cx D p s m args meth c M) {x : Int32} (hdg : decode M.2.2.1 pc = .ok (.i2l, 1)) (k : am_V p l e R s m args below meth c Q D B M cells slots (pc + 1) L (.long x.toInt64 :: S) h) : am_V p l e R s m args below meth c Q D B M cells slots pc L (.int x :: S) h := by
  obtain ⟨hx, hb, hml, hr, hlk, hown, hts, hK, hnm, hM⟩ := X
  intro H locs ls hP hL hF
  exact lv_i2l hx hb hdg rfl (k H locs ls hP hL hF)
theorem am_v_l2i (X : am_Cx D p s m args meth c M) {x : Int64} (hdg : decode M.2.2.1 pc = .ok (.l2i, 1)) (k : am_V p l e R s m args below meth c Q D B M cells slots (pc + 1) L (.int x.toInt32 :: S) h) : am_V p l e R s m args below meth c Q D B M cells slots pc L (.long x :: S) h := by
  obtain ⟨hx, hb, hml, hr, hlk, hown, hts, hK, hnm, hM⟩ := X
  intro H locs ls hP hL hF
  exact lv_l2i hx hb hdg rfl (k H locs ls hP hL hF)
theorem am_v_i2b (X : am_Cx D p s m args meth c M) {x : Int32} (hdg : decode M.2.2.1 pc = .ok (.i2b, 1)) (k : am_V p l e R s m args below meth c Q D B M cells slots (pc + 1) L (.int x.toInt8.toInt32 :: S) h) : am_V p l e R s m args below meth c Q D B M cells slots pc L (.int x :: S) h := by
  obtain ⟨hx, hb, hml, hr, hlk, hown, hts, hK, hnm, hM⟩ := X
  intro H locs ls hP hL hF
  exact lv_i2b hx hb hdg rfl (k H locs ls hP hL hF)
theorem am_v_i2s (X : am_Cx D p s m args meth c M) {x : Int32} (hdg : decode M.2.2.1 pc = .ok (.i2s, 1)) (k : am_V p l e R s m args below meth c Q D B M cells slots (pc + 1) L (.int x.toInt16.toInt32 :: S) h) : am_V p l e R s m args below meth c Q D B M cells slots pc L (.int x :: S) h := by
  obtain ⟨hx, hb, hml, hr, hlk, hown, hts, hK, hnm, hM⟩ := X
  intro H locs ls hP hL hF
  exact lv_i2s hx hb hdg rfl (k H locs ls hP hL hF)
theorem am_v_dup (X : am_Cx D p s m args meth c M) {v : Value} (hv : v.category = 1) (hdg : decode M.2.2.1 pc = .ok (.dup, 1)) (k : am_V p l e R s m args below meth c Q D B M cells slots (pc + 1) L (v :: v :: S) h) : am_V p l e R s m args below meth c Q D B M cells slots pc L (v :: S) h := by
  obtain ⟨hx, hb, hml, hr, hlk, hown, hts, hK, hnm, hM⟩ := X
  intro H locs ls hP hL hF
  exact lv_dup hx hb hdg hv (k H locs ls hP hL hF)
theorem am_v_pop (X : am_Cx D p s m args meth c M) {v : Value} (hv : v.category = 1) (hdg : decode M.2.2.1 pc = .ok (.pop, 1)) (k : am_V p l e R s m args below meth c Q D B M cells slots (pc + 1) L S h) : am_V p l e R s m args below meth c Q D B M cells slots pc L (v :: S) h := by
  obtain ⟨hx, hb, hml, hr, hlk, hown, hts, hK, hnm, hM⟩ := X
  intro H locs ls hP hL hF
  exact lv_pop hx hb hdg hv (k H locs ls hP hL hF)
theorem am_v_dup2 (X : am_Cx D p s m args meth c M) {v w : Value} (hv : v.category = 1) (hw : w.category = 1) (hdg : decode M.2.2.1 pc = .ok (.dup2, 1)) (k : am_V p l e R s m args below meth c Q D B M cells slots (pc + 1) L (v :: w :: v :: w :: S) h) : am_V p l e R s m args below meth c Q D B M cells slots pc L (v :: w :: S) h := by
  obtain ⟨hx, hb, hml, hr, hlk, hown, hts, hK, hnm, hM⟩ := X
  intro H locs ls hP hL hF
  exact lv_dup2_11 hx hb hdg hv hw (k H locs ls hP hL hF)
theorem am_v_ldc (X : am_Cx D p s m args meth c M) {i : Nat} {v : Int32} (hk : am_k M.1 i = some v) (hdg : decode M.2.2.1 pc = .ok (.ldc i, 2)) (k : am_V p l e R s m args below meth c Q D B M cells slots (pc + 2) L (.int v :: S) h) : am_V p l e R s m args below meth c Q D B M cells slots pc L S h := by
  obtain ⟨hx, hb, hml, hr, hlk, hown, hts, hK, hnm, hM⟩ := X
  unfold am_k at hk
  rw [Option.map_eq_some_iff] at hk
  obtain ⟨q, hq, hv⟩ := hk
  have hi : q.1 = i := by simpa using List.find?_some hq
  have hw := am_w_in (List.all_eq_true.mp (am_kck_ok M.1 hM) q (List.mem_of_find?_eq_some hq))
  subst hv
  subst hi
  intro H locs ls hP hL hF
  exact lv_ldc hx hb hown (hts _ hw) hdg (k H locs ls hP hL hF)
theorem am_v_ldc_w (X : am_Cx D p s m args meth c M) {i : Nat} {v : Int32} (hk : am_k M.1 i = some v) (hdg : decode M.2.2.1 pc = .ok (.ldc_w i, 3)) (k : am_V p l e R s m args below meth c Q D B M cells slots (pc + 3) L (.int v :: S) h) : am_V p l e R s m args below meth c Q D B M cells slots pc L S h := by
  obtain ⟨hx, hb, hml, hr, hlk, hown, hts, hK, hnm, hM⟩ := X
  unfold am_k at hk
  rw [Option.map_eq_some_iff] at hk
  obtain ⟨q, hq, hv⟩ := hk
  have hi : q.1 = i := by simpa using List.find?_some hq
  have hw := am_w_in (List.all_eq_true.mp (am_kck_ok M.1 hM) q (List.mem_of_find?_eq_some hq))
  subst hv
  subst hi
  intro H locs ls hP hL hF
  exact lv_ldcw hx hb hown (hts _ hw) hdg (k H locs ls hP hL hF)
theorem am_v_ldc2 (X : am_Cx D p s m args meth c M) {i : Nat} {v : Int64} (hk : am_k2 M.1 i = some v) (hdg : decode M.2.2.1 pc = .ok (.ldc2_w i, 3)) (k : am_V p l e R s m args below meth c Q D B M cells slots (pc + 3) L (.long v :: S) h) : am_V p l e R s m args below meth c Q D B M cells slots pc L S h := by
  obtain ⟨hx, hb, hml, hr, hlk, hown, hts, hK, hnm, hM⟩ := X
  unfold am_k2 at hk
  rw [Option.map_eq_some_iff] at hk
  obtain ⟨q, hq, hv⟩ := hk
  have hi : q.1 = i := by simpa using List.find?_some hq
  have hw := am_w_in (List.all_eq_true.mp (am_k2ck_ok M.1 hM) q (List.mem_of_find?_eq_some hq))
  subst hv
  subst hi
  intro H locs ls hP hL hF
  exact lv_ldc2 hx hb hown (hts _ hw) hdg (k H locs ls hP hL hF)
theorem am_v_iload_n (X : am_Cx D p s m args meth c M) {k0 : Fin 4} {x : Int32} (hi : L[k0.val]? = some (.int x)) (hdg : decode M.2.2.1 pc = .ok (.iload_n k0, 1)) (k : am_V p l e R s m args below meth c Q D B M cells slots (pc + 1) L (.int x :: S) h) : am_V p l e R s m args below meth c Q D B M cells slots pc L S h := by
  obtain ⟨hx, hb, hml, hr, hlk, hown, hts, hK, hnm, hM⟩ := X
  intro H locs ls hP hL hF
  exact lv_iload_n hx hb hdg rfl (hL.get hi (fun z hz => by cases hz)) (k H locs ls hP hL hF)
theorem am_v_iload (X : am_Cx D p s m args meth c M) {i : Nat} {x : Int32} (hi : L[i]? = some (.int x)) (hdg : decode M.2.2.1 pc = .ok (.iload i, 2)) (k : am_V p l e R s m args below meth c Q D B M cells slots (pc + 2) L (.int x :: S) h) : am_V p l e R s m args below meth c Q D B M cells slots pc L S h := by
  obtain ⟨hx, hb, hml, hr, hlk, hown, hts, hK, hnm, hM⟩ := X
  intro H locs ls hP hL hF
  exact lv_iload hx hb hdg (hL.get hi (fun z hz => by cases hz)) (k H locs ls hP hL hF)
theorem am_v_lload_n (X : am_Cx D p s m args meth c M) {k0 : Fin 4} {x : Int64} (hi : L[k0.val]? = some (.long x)) (hdg : decode M.2.2.1 pc = .ok (.lload_n k0, 1)) (k : am_V p l e R s m args below meth c Q D B M cells slots (pc + 1) L (.long x :: S) h) : am_V p l e R s m args below meth c Q D B M cells slots pc L S h := by
  obtain ⟨hx, hb, hml, hr, hlk, hown, hts, hK, hnm, hM⟩ := X
  intro H locs ls hP hL hF
  exact lv_lload_n hx hb hdg rfl (hL.get hi (fun z hz => by cases hz)) (k H locs ls hP hL hF)
theorem am_v_lload (X : am_Cx D p s m args meth c M) {i : Nat} {x : Int64} (hi : L[i]? = some (.long x)) (hdg : decode M.2.2.1 pc = .ok (.lload i, 2)) (k : am_V p l e R s m args below meth c Q D B M cells slots (pc + 2) L (.long x :: S) h) : am_V p l e R s m args below meth c Q D B M cells slots pc L S h := by
  obtain ⟨hx, hb, hml, hr, hlk, hown, hts, hK, hnm, hM⟩ := X
  intro H locs ls hP hL hF
  exact lv_lload hx hb hdg (hL.get hi (fun z hz => by cases hz)) (k H locs ls hP hL hF)
theorem am_v_aload_n (X : am_Cx D p s m args meth c M) {k0 : Fin 4} {x : Nat} (hi : L[k0.val]? = some (.ref x)) (hdg : decode M.2.2.1 pc = .ok (.aload_n k0, 1)) (k : am_V p l e R s m args below meth c Q D B M cells slots (pc + 1) L (.ref x :: S) h) : am_V p l e R s m args below meth c Q D B M cells slots pc L S h := by
  obtain ⟨hx, hb, hml, hr, hlk, hown, hts, hK, hnm, hM⟩ := X
  intro H locs ls hP hL hF
  exact lv_aload_n hx hb hdg rfl (hL.get hi (fun z hz => by cases hz)) (k H locs ls hP hL hF)
theorem am_v_aload_nN (X : am_Cx D p s m args meth c M) {k0 : Fin 4} (hi : L[k0.val]? = some .null) (hdg : decode M.2.2.1 pc = .ok (.aload_n k0, 1)) (k : am_V p l e R s m args below meth c Q D B M cells slots (pc + 1) L (.null :: S) h) : am_V p l e R s m args below meth c Q D B M cells slots pc L S h := by
  obtain ⟨hx, hb, hml, hr, hlk, hown, hts, hK, hnm, hM⟩ := X
  intro H locs ls hP hL hF
  exact lv_aload_nN hx hb hdg rfl (hL.get hi (fun z hz => by cases hz)) (k H locs ls hP hL hF)
theorem am_v_aload (X : am_Cx D p s m args meth c M) {i : Nat} {x : Nat} (hi : L[i]? = some (.ref x)) (hdg : decode M.2.2.1 pc = .ok (.aload i, 2)) (k : am_V p l e R s m args below meth c Q D B M cells slots (pc + 2) L (.ref x :: S) h) : am_V p l e R s m args below meth c Q D B M cells slots pc L S h := by
  obtain ⟨hx, hb, hml, hr, hlk, hown, hts, hK, hnm, hM⟩ := X
  intro H locs ls hP hL hF
  exact lv_aload hx hb hdg (hL.get hi (fun z hz => by cases hz)) (k H locs ls hP hL hF)
theorem am_v_aloadN (X : am_Cx D p s m args meth c M) {i : Nat} (hi : L[i]? = some .null) (hdg : decode M.2.2.1 pc = .ok (.aload i, 2)) (k : am_V p l e R s m args below meth c Q D B M cells slots (pc + 2) L (.null :: S) h) : am_V p l e R s m args below meth c Q D B M cells slots pc L S h := by
  obtain ⟨hx, hb, hml, hr, hlk, hown, hts, hK, hnm, hM⟩ := X
  intro H locs ls hP hL hF
  exact lv_aloadN hx hb hdg (hL.get hi (fun z hz => by cases hz)) (k H locs ls hP hL hF)
theorem am_v_istore_n (X : am_Cx D p s m args meth c M) {k0 : Fin 4} {x : Int32} (hi : k0.val < L.length) (hdg : decode M.2.2.1 pc = .ok (.istore_n k0, 1)) (k : am_V p l e R s m args below meth c Q D B M cells slots (pc + 1) (am_st1 L k0.val (.int x)) S h) : am_V p l e R s m args below meth c Q D B M cells slots pc L (.int x :: S) h := by
  obtain ⟨hx, hb, hml, hr, hlk, hown, hts, hK, hnm, hM⟩ := X
  intro H locs ls hP hL hF
  exact lv_istore_n hx hb hdg rfl hL.has (hL.2.2.1 ▸ hi) rfl (fun ls' hl => k H locs ls' hP (am_st1_lv hL.2.2.1 hl) hF)
theorem am_v_istore (X : am_Cx D p s m args meth c M) {i : Nat} {x : Int32} (hi : i < L.length) (hdg : decode M.2.2.1 pc = .ok (.istore i, 2)) (k : am_V p l e R s m args below meth c Q D B M cells slots (pc + 2) (am_st1 L i (.int x)) S h) : am_V p l e R s m args below meth c Q D B M cells slots pc L (.int x :: S) h := by
  obtain ⟨hx, hb, hml, hr, hlk, hown, hts, hK, hnm, hM⟩ := X
  intro H locs ls hP hL hF
  exact lv_istore hx hb hdg hL.has (hL.2.2.1 ▸ hi) rfl (fun ls' hl => k H locs ls' hP (am_st1_lv hL.2.2.1 hl) hF)
theorem am_v_lstore_n (X : am_Cx D p s m args meth c M) {k0 : Fin 4} {x : Int64} (hi : k0.val + 1 < L.length) (hdg : decode M.2.2.1 pc = .ok (.lstore_n k0, 1)) (k : am_V p l e R s m args below meth c Q D B M cells slots (pc + 1) (am_st2 L k0.val (.long x)) S h) : am_V p l e R s m args below meth c Q D B M cells slots pc L (.long x :: S) h := by
  obtain ⟨hx, hb, hml, hr, hlk, hown, hts, hK, hnm, hM⟩ := X
  intro H locs ls hP hL hF
  exact lv_lstore_n hx hb hdg rfl hL.has (hL.2.2.1 ▸ hi) rfl (fun ls' hl => k H locs ls' hP (am_st2_lv hL.2.2.1 hl) hF)
theorem am_v_lstore (X : am_Cx D p s m args meth c M) {i : Nat} {x : Int64} (hi : i + 1 < L.length) (hdg : decode M.2.2.1 pc = .ok (.lstore i, 2)) (k : am_V p l e R s m args below meth c Q D B M cells slots (pc + 2) (am_st2 L i (.long x)) S h) : am_V p l e R s m args below meth c Q D B M cells slots pc L (.long x :: S) h := by
  obtain ⟨hx, hb, hml, hr, hlk, hown, hts, hK, hnm, hM⟩ := X
  intro H locs ls hP hL hF
  exact lv_lstore hx hb hdg hL.has (hL.2.2.1 ▸ hi) rfl (fun ls' hl => k H locs ls' hP (am_st2_lv hL.2.2.1 hl) hF)
theorem am_v_astore_n (X : am_Cx D p s m args meth c M) {k0 : Fin 4} {x : Nat} (hi : k0.val < L.length) (hdg : decode M.2.2.1 pc = .ok (.astore_n k0, 1)) (k : am_V p l e R s m args below meth c Q D B M cells slots (pc + 1) (am_st1 L k0.val (.ref x)) S h) : am_V p l e R s m args below meth c Q D B M cells slots pc L (.ref x :: S) h := by
  obtain ⟨hx, hb, hml, hr, hlk, hown, hts, hK, hnm, hM⟩ := X
  intro H locs ls hP hL hF
  exact lv_astore_n hx hb hdg rfl hL.has (hL.2.2.1 ▸ hi) rfl (fun ls' hl => k H locs ls' hP (am_st1_lv hL.2.2.1 hl) hF)
theorem am_v_astore_nN (X : am_Cx D p s m args meth c M) {k0 : Fin 4} (hi : k0.val < L.length) (hdg : decode M.2.2.1 pc = .ok (.astore_n k0, 1)) (k : am_V p l e R s m args below meth c Q D B M cells slots (pc + 1) (am_st1 L k0.val .null) S h) : am_V p l e R s m args below meth c Q D B M cells slots pc L (.null :: S) h := by
  obtain ⟨hx, hb, hml, hr, hlk, hown, hts, hK, hnm, hM⟩ := X
  intro H locs ls hP hL hF
  exact lv_astore_nN hx hb hdg rfl hL.has (hL.2.2.1 ▸ hi) rfl (fun ls' hl => k H locs ls' hP (am_st1_lv hL.2.2.1 hl) hF)
theorem am_v_astore (X : am_Cx D p s m args meth c M) {i : Nat} {x : Nat} (hi : i < L.length) (hdg : decode M.2.2.1 pc = .ok (.astore i, 2)) (k : am_V p l e R s m args below meth c Q D B M cells slots (pc + 2) (am_st1 L i (.ref x)) S h) : am_V p l e R s m args below meth c Q D B M cells slots pc L (.ref x :: S) h := by
  obtain ⟨hx, hb, hml, hr, hlk, hown, hts, hK, hnm, hM⟩ := X
  intro H locs ls hP hL hF
  exact lv_astore hx hb hdg hL.has (hL.2.2.1 ▸ hi) rfl (fun ls' hl => k H locs ls' hP (am_st1_lv hL.2.2.1 hl) hF)
theorem am_v_astoreN (X : am_Cx D p s m args meth c M) {i : Nat} (hi : i < L.length) (hdg : decode M.2.2.1 pc = .ok (.astore i, 2)) (k : am_V p l e R s m args below meth c Q D B M cells slots (pc + 2) (am_st1 L i .null) S h) : am_V p l e R s m args below meth c Q D B M cells slots pc L (.null :: S) h := by
  obtain ⟨hx, hb, hml, hr, hlk, hown, hts, hK, hnm, hM⟩ := X
  intro H locs ls hP hL hF
  exact lv_astoreN hx hb hdg hL.has (hL.2.2.1 ▸ hi) rfl (fun ls' hl => k H locs ls' hP (am_st1_lv hL.2.2.1 hl) hF)
theorem am_v_iinc (X : am_Cx D p s m args meth c M) {i : Nat} {n : Int} {x : Int32} (hi : L[i]? = some (.int x)) (hdg : decode M.2.2.1 pc = .ok (.iinc i n, 3)) (k : am_V p l e R s m args below meth c Q D B M cells slots (pc + 3) (am_st1 L i (.int (x + Int32.ofInt n))) S h) : am_V p l e R s m args below meth c Q D B M cells slots pc L S h := by
  obtain ⟨hx, hb, hml, hr, hlk, hown, hts, hK, hnm, hM⟩ := X
  have hlt : i < L.length := (List.getElem?_eq_some_iff.mp hi).1
  intro H locs ls hP hL hF
  
  obtain ⟨j, hj⟩ := List.getElem?_of_mem (am_ps_of hi (fun z hz => by cases hz))
  exact lv_iinc hx hb hdg hL.has hj rfl (hL.2.2.1 ▸ hlt) rfl (fun ls' hl => k H locs ls' hP (am_st1_lv hL.2.2.1 hl) hF)
theorem am_v_if_eq (X : am_Cx D p s m args meth c M) {x : Int32} {off : Int} (ht : am_tok pc off = true) (hdg : decode M.2.2.1 pc = .ok (.ifCond .eq off, 3)) (kt : x = 0 → am_V p l e R s m args below meth c Q D B M cells slots (am_tg pc off) L S h) (kf : ¬ x = 0 → am_V p l e R s m args below meth c Q D B M cells slots (pc + 3) L S h) : am_V p l e R s m args below meth c Q D B M cells slots pc L (.int x :: S) h := by
  obtain ⟨hx, hb, hml, hr, hlk, hown, hts, hK, hnm, hM⟩ := X
  intro H locs ls hP hL hF
  exact lv_if_eq hx hb hdg (am_tg_eq ht) (fun q => kt q H locs ls hP hL hF) (fun q => kf q H locs ls hP hL hF)
theorem am_v_icmp_eq (X : am_Cx D p s m args meth c M) {x y : Int32} {off : Int} (ht : am_tok pc off = true) (hdg : decode M.2.2.1 pc = .ok (.if_icmp .eq off, 3)) (kt : x = y → am_V p l e R s m args below meth c Q D B M cells slots (am_tg pc off) L S h) (kf : ¬ x = y → am_V p l e R s m args below meth c Q D B M cells slots (pc + 3) L S h) : am_V p l e R s m args below meth c Q D B M cells slots pc L (.int y :: .int x :: S) h := by
  obtain ⟨hx, hb, hml, hr, hlk, hown, hts, hK, hnm, hM⟩ := X
  intro H locs ls hP hL hF
  exact lv_icmp_eq hx hb hdg (am_tg_eq ht) (fun q => kt q H locs ls hP hL hF) (fun q => kf q H locs ls hP hL hF)
theorem am_v_if_ne (X : am_Cx D p s m args meth c M) {x : Int32} {off : Int} (ht : am_tok pc off = true) (hdg : decode M.2.2.1 pc = .ok (.ifCond .ne off, 3)) (kt : ¬ x = 0 → am_V p l e R s m args below meth c Q D B M cells slots (am_tg pc off) L S h) (kf : x = 0 → am_V p l e R s m args below meth c Q D B M cells slots (pc + 3) L S h) : am_V p l e R s m args below meth c Q D B M cells slots pc L (.int x :: S) h := by
  obtain ⟨hx, hb, hml, hr, hlk, hown, hts, hK, hnm, hM⟩ := X
  intro H locs ls hP hL hF
  exact lv_if_ne hx hb hdg (am_tg_eq ht) (fun q => kt q H locs ls hP hL hF) (fun q => kf q H locs ls hP hL hF)
theorem am_v_icmp_ne (X : am_Cx D p s m args meth c M) {x y : Int32} {off : Int} (ht : am_tok pc off = true) (hdg : decode M.2.2.1 pc = .ok (.if_icmp .ne off, 3)) (kt : ¬ x = y → am_V p l e R s m args below meth c Q D B M cells slots (am_tg pc off) L S h) (kf : x = y → am_V p l e R s m args below meth c Q D B M cells slots (pc + 3) L S h) : am_V p l e R s m args below meth c Q D B M cells slots pc L (.int y :: .int x :: S) h := by
  obtain ⟨hx, hb, hml, hr, hlk, hown, hts, hK, hnm, hM⟩ := X
  intro H locs ls hP hL hF
  exact lv_icmp_ne hx hb hdg (am_tg_eq ht) (fun q => kt q H locs ls hP hL hF) (fun q => kf q H locs ls hP hL hF)
theorem am_v_if_lt (X : am_Cx D p s m args meth c M) {x : Int32} {off : Int} (ht : am_tok pc off = true) (hdg : decode M.2.2.1 pc = .ok (.ifCond .lt off, 3)) (kt : x < 0 → am_V p l e R s m args below meth c Q D B M cells slots (am_tg pc off) L S h) (kf : ¬ x < 0 → am_V p l e R s m args below meth c Q D B M cells slots (pc + 3) L S h) : am_V p l e R s m args below meth c Q D B M cells slots pc L (.int x :: S) h := by
  obtain ⟨hx, hb, hml, hr, hlk, hown, hts, hK, hnm, hM⟩ := X
  intro H locs ls hP hL hF
  exact lv_if_lt hx hb hdg (am_tg_eq ht) (fun q => kt q H locs ls hP hL hF) (fun q => kf q H locs ls hP hL hF)
theorem am_v_icmp_lt (X : am_Cx D p s m args meth c M) {x y : Int32} {off : Int} (ht : am_tok pc off = true) (hdg : decode M.2.2.1 pc = .ok (.if_icmp .lt off, 3)) (kt : x < y → am_V p l e R s m args below meth c Q D B M cells slots (am_tg pc off) L S h) (kf : ¬ x < y → am_V p l e R s m args below meth c Q D B M cells slots (pc + 3) L S h) : am_V p l e R s m args below meth c Q D B M cells slots pc L (.int y :: .int x :: S) h := by
  obtain ⟨hx, hb, hml, hr, hlk, hown, hts, hK, hnm, hM⟩ := X
  intro H locs ls hP hL hF
  exact lv_icmp_lt hx hb hdg (am_tg_eq ht) (fun q => kt q H locs ls hP hL hF) (fun q => kf q H locs ls hP hL hF)
theorem am_v_if_ge (X : am_Cx D p s m args meth c M) {x : Int32} {off : Int} (ht : am_tok pc off = true) (hdg : decode M.2.2.1 pc = .ok (.ifCond .ge off, 3)) (kt : 0 ≤ x → am_V p l e R s m args below meth c Q D B M cells slots (am_tg pc off) L S h) (kf : ¬ 0 ≤ x → am_V p l e R s m args below meth c Q D B M cells slots (pc + 3) L S h) : am_V p l e R s m args below meth c Q D B M cells slots pc L (.int x :: S) h := by
  obtain ⟨hx, hb, hml, hr, hlk, hown, hts, hK, hnm, hM⟩ := X
  intro H locs ls hP hL hF
  exact lv_if_ge hx hb hdg (am_tg_eq ht) (fun q => kt q H locs ls hP hL hF) (fun q => kf q H locs ls hP hL hF)
theorem am_v_icmp_ge (X : am_Cx D p s m args meth c M) {x y : Int32} {off : Int} (ht : am_tok pc off = true) (hdg : decode M.2.2.1 pc = .ok (.if_icmp .ge off, 3)) (kt : y ≤ x → am_V p l e R s m args below meth c Q D B M cells slots (am_tg pc off) L S h) (kf : ¬ y ≤ x → am_V p l e R s m args below meth c Q D B M cells slots (pc + 3) L S h) : am_V p l e R s m args below meth c Q D B M cells slots pc L (.int y :: .int x :: S) h := by
  obtain ⟨hx, hb, hml, hr, hlk, hown, hts, hK, hnm, hM⟩ := X
  intro H locs ls hP hL hF
  exact lv_icmp_ge hx hb hdg (am_tg_eq ht) (fun q => kt q H locs ls hP hL hF) (fun q => kf q H locs ls hP hL hF)
theorem am_v_if_gt (X : am_Cx D p s m args meth c M) {x : Int32} {off : Int} (ht : am_tok pc off = true) (hdg : decode M.2.2.1 pc = .ok (.ifCond .gt off, 3)) (kt : 0 < x → am_V p l e R s m args below meth c Q D B M cells slots (am_tg pc off) L S h) (kf : ¬ 0 < x → am_V p l e R s m args below meth c Q D B M cells slots (pc + 3) L S h) : am_V p l e R s m args below meth c Q D B M cells slots pc L (.int x :: S) h := by
  obtain ⟨hx, hb, hml, hr, hlk, hown, hts, hK, hnm, hM⟩ := X
  intro H locs ls hP hL hF
  exact lv_if_gt hx hb hdg (am_tg_eq ht) (fun q => kt q H locs ls hP hL hF) (fun q => kf q H locs ls hP hL hF)
theorem am_v_icmp_gt (X : am_Cx D p s m args meth c M) {x y : Int32} {off : Int} (ht : am_tok pc off = true) (hdg : decode M.2.2.1 pc = .ok (.if_icmp .gt off, 3)) (kt : y < x → am_V p l e R s m args below meth c Q D B M cells slots (am_tg pc off) L S h) (kf : ¬ y < x → am_V p l e R s m args below meth c Q D B M cells slots (pc + 3) L S h) : am_V p l e R s m args below meth c Q D B M cells slots pc L (.int y :: .int x :: S) h := by
  obtain ⟨hx, hb, hml, hr, hlk, hown, hts, hK, hnm, hM⟩ := X
  intro H locs ls hP hL hF
  exact lv_icmp_gt hx hb hdg (am_tg_eq ht) (fun q => kt q H locs ls hP hL hF) (fun q => kf q H locs ls hP hL hF)
theorem am_v_if_le (X : am_Cx D p s m args meth c M) {x : Int32} {off : Int} (ht : am_tok pc off = true) (hdg : decode M.2.2.1 pc = .ok (.ifCond .le off, 3)) (kt : x ≤ 0 → am_V p l e R s m args below meth c Q D B M cells slots (am_tg pc off) L S h) (kf : ¬ x ≤ 0 → am_V p l e R s m args below meth c Q D B M cells slots (pc + 3) L S h) : am_V p l e R s m args below meth c Q D B M cells slots pc L (.int x :: S) h := by
  obtain ⟨hx, hb, hml, hr, hlk, hown, hts, hK, hnm, hM⟩ := X
  intro H locs ls hP hL hF
  exact lv_if_le hx hb hdg (am_tg_eq ht) (fun q => kt q H locs ls hP hL hF) (fun q => kf q H locs ls hP hL hF)
theorem am_v_icmp_le (X : am_Cx D p s m args meth c M) {x y : Int32} {off : Int} (ht : am_tok pc off = true) (hdg : decode M.2.2.1 pc = .ok (.if_icmp .le off, 3)) (kt : x ≤ y → am_V p l e R s m args below meth c Q D B M cells slots (am_tg pc off) L S h) (kf : ¬ x ≤ y → am_V p l e R s m args below meth c Q D B M cells slots (pc + 3) L S h) : am_V p l e R s m args below meth c Q D B M cells slots pc L (.int y :: .int x :: S) h := by
  obtain ⟨hx, hb, hml, hr, hlk, hown, hts, hK, hnm, hM⟩ := X
  intro H locs ls hP hL hF
  exact lv_icmp_le hx hb hdg (am_tg_eq ht) (fun q => kt q H locs ls hP hL hF) (fun q => kf q H locs ls hP hL hF)
theorem am_v_goto (X : am_Cx D p s m args meth c M) {off : Int} (ht : am_tok pc off = true) (hdg : decode M.2.2.1 pc = .ok (.goto off, 3)) (k : am_V p l e R s m args below meth c Q D B M cells slots (am_tg pc off) L S h) : am_V p l e R s m args below meth c Q D B M cells slots pc L S h := by
  obtain ⟨hx, hb, hml, hr, hlk, hown, hts, hK, hnm, hM⟩ := X
  intro H locs ls hP hL hF
  exact lv_goto hx hb hdg (am_tg_eq ht) (k H locs ls hP hL hF)
theorem am_v_ifnull (X : am_Cx D p s m args meth c M) {x : Nat} {off : Int} (hdg : decode M.2.2.1 pc = .ok (.ifnull off, 3)) (k : am_V p l e R s m args below meth c Q D B M cells slots (pc + 3) L S h) : am_V p l e R s m args below meth c Q D B M cells slots pc L (.ref x :: S) h := by
  obtain ⟨hx, hb, hml, hr, hlk, hown, hts, hK, hnm, hM⟩ := X
  intro H locs ls hP hL hF
  exact lv_ifnull hx hb hdg (k H locs ls hP hL hF)
theorem am_v_ifnullN (X : am_Cx D p s m args meth c M) {off : Int} (ht : am_tok pc off = true) (hdg : decode M.2.2.1 pc = .ok (.ifnull off, 3)) (k : am_V p l e R s m args below meth c Q D B M cells slots (am_tg pc off) L S h) : am_V p l e R s m args below meth c Q D B M cells slots pc L (.null :: S) h := by
  obtain ⟨hx, hb, hml, hr, hlk, hown, hts, hK, hnm, hM⟩ := X
  intro H locs ls hP hL hF
  exact lv_ifnullN hx hb hdg (am_tg_eq ht) (k H locs ls hP hL hF)
theorem am_v_ifnonnull (X : am_Cx D p s m args meth c M) {x : Nat} {off : Int} (ht : am_tok pc off = true) (hdg : decode M.2.2.1 pc = .ok (.ifnonnull off, 3)) (k : am_V p l e R s m args below meth c Q D B M cells slots (am_tg pc off) L S h) : am_V p l e R s m args below meth c Q D B M cells slots pc L (.ref x :: S) h := by
  obtain ⟨hx, hb, hml, hr, hlk, hown, hts, hK, hnm, hM⟩ := X
  intro H locs ls hP hL hF
  exact lv_ifnonnull hx hb hdg (am_tg_eq ht) (k H locs ls hP hL hF)
theorem am_v_ifnonnullN (X : am_Cx D p s m args meth c M) {off : Int} (hdg : decode M.2.2.1 pc = .ok (.ifnonnull off, 3)) (k : am_V p l e R s m args below meth c Q D B M cells slots (pc + 3) L S h) : am_V p l e R s m args below meth c Q D B M cells slots pc L (.null :: S) h := by
  obtain ⟨hx, hb, hml, hr, hlk, hown, hts, hK, hnm, hM⟩ := X
  intro H locs ls hP hL hF
  exact lv_ifnonnullN hx hb hdg (k H locs ls hP hL hF)
theorem am_v_tableOut (X : am_Cx D p s m args meth c M) {dflt lo hi : Int} {offs : Array Int} {len : Nat} {x : Int32} (ht : am_tok pc dflt = true) (hdg : decode M.2.2.1 pc = .ok (.tableswitch dflt lo hi offs, len)) (ho : x.toInt < lo ∨ hi < x.toInt) (k : am_V p l e R s m args below meth c Q D B M cells slots (am_tg pc dflt) L S h) : am_V p l e R s m args below meth c Q D B M cells slots pc L (.int x :: S) h := by
  obtain ⟨hx, hb, hml, hr, hlk, hown, hts, hK, hnm, hM⟩ := X
  intro H locs ls hP hL hF
  exact lv_tableOut hx hb hdg ho (am_tg_eq ht) (k H locs ls hP hL hF)
theorem am_v_tableIn (X : am_Cx D p s m args meth c M) {dflt lo hi off : Int} {offs : Array Int} {len : Nat} {x : Int32} (ht : am_tok pc off = true) (hdg : decode M.2.2.1 pc = .ok (.tableswitch dflt lo hi offs, len)) (ho : ¬ (x.toInt < lo ∨ hi < x.toInt)) (hf : offs[(x.toInt - lo).toNat]? = some off) (k : am_V p l e R s m args below meth c Q D B M cells slots (am_tg pc off) L S h) : am_V p l e R s m args below meth c Q D B M cells slots pc L (.int x :: S) h := by
  obtain ⟨hx, hb, hml, hr, hlk, hown, hts, hK, hnm, hM⟩ := X
  intro H locs ls hP hL hF
  exact lv_tableIn hx hb hdg (fun q => ho (Or.inl q)) (fun q => ho (Or.inr q)) hf (am_tg_eq ht) (k H locs ls hP hL hF)
theorem am_v_lookup (X : am_Cx D p s m args meth c M) {dflt : Int} {ps : Array (Int × Int)} {len : Nat} {x : Int32} (hdg : decode M.2.2.1 pc = .ok (.lookupswitch dflt ps, len)) (hp : (ps.toList.zip (ps.toList.drop 1)).all (fun (a, next) => a.1 < next.1) = true) (ht : am_tok pc (Op.lookupswitch.offset ps.toList dflt x.toInt) = true) (k : am_V p l e R s m args below meth c Q D B M cells slots (am_tg pc (Op.lookupswitch.offset ps.toList dflt x.toInt)) L S h) : am_V p l e R s m args below meth c Q D B M cells slots pc L (.int x :: S) h := by
  obtain ⟨hx, hb, hml, hr, hlk, hown, hts, hK, hnm, hM⟩ := X
  intro H locs ls hP hL hF
  exact lv_lookup hx hb hdg hp rfl (am_tg_eq ht) (k H locs ls hP hL hF)
theorem am_v_getf (X : am_Cx D p s m args meth c M) {i a t k0 : Nat} {fs : List Value} {ts : List Nat} {v : Value} (ha : h.1 a = some (t, fs)) (hf : am_fld M.1 i = some (k0, ts)) (hv0 : fs[k0]? = some v) (ht : ts.contains t = true) (hdg : decode M.2.2.1 pc = .ok (.getfield i, 3)) (k : am_V p l e R s m args below meth c Q D B M cells slots (pc + 3) L (v :: S) h) : am_V p l e R s m args below meth c Q D B M cells slots pc L (.ref a :: S) h := by
  obtain ⟨hx, hb, hml, hr, hlk, hown, hts, hK, hnm, hM⟩ := X
  unfold am_fld at hf
  rw [Option.map_eq_some_iff] at hf
  obtain ⟨q, hq, hv⟩ := hf
  have hi : q.1 = i := by simpa using List.find?_some hq
  have hck := List.all_eq_true.mp (am_fck_ok M.1 hM) q (List.mem_of_find?_eq_some hq)
  cases hv
  subst hi
  unfold am_fck at hck
  have hck := List.all_eq_true.mp hck t (List.contains_iff_mem.mp ht)
  split at hck
  rotate_left
  · cases hck
  rename_i r hr2
  rw [Bool.and_eq_true, Bool.and_eq_true] at hck
  obtain ⟨hkN, hlink, hsame⟩ := hck
  have hkN := of_decide_eq_true hkN
  have hlink := hts _ (am_w_in hlink)
  have hsame : ∀ z, s.fieldFound? (r.2.1 q.2.1).1 (r.2.1 q.2.1).2.1 (r.2.1 q.2.1).2.2.1 = some z → s.fieldFound? q.2.2.2.1 (r.2.1 q.2.1).2.1 (r.2.1 q.2.1).2.2.1 = some z := by
    rw [Bool.or_eq_true] at hsame
    rcases hsame with q1 | q1
    · rw [of_decide_eq_true q1]; exact fun z hz => hz
    · exact u_same (hts _ (am_w_in q1))
  obtain ⟨hin, hty, hnmm, hN⟩ := am_cls_ok t r hr2
  intro H locs ls hP hL hF
  
  rcases hP.2.2 a t fs ha with ⟨r', g1, g2, cell, q1, q2, q3, q4⟩ | ⟨g1, -⟩
  rotate_left
  · exact absurd (am_lt13 hr2) (by omega)
  have hrr : r' = r := Option.some.inj (g1.symm.trans hr2)
  subst hrr
  obtain ⟨hS, hfc, kC, hkC, hkind⟩ := hK.1 t _ hr2
  obtain ⟨cf, kf, fi, f, hi, hsl⟩ := hS _ hkN
  
  refine W.getf hx hb hown hlink (hsame _ hi) (u_facts hfc hkC (u_lays hts hin hkN) hi).1 q1 (by rw [q3]; exact fun z => by cases z) (v := v) ?_ rfl rfl hdg (k H locs ls hP hL hF)
  rw [hsl, q4 _ hkN, am_vV hv0]
theorem am_v_putf (X : am_Cx D p s m args meth c M) {i a t k0 : Nat} {fs : List Value} {ts : List Nat} {v : Value} (ha : h.1 a = some (t, fs)) (hf : am_fld M.1 i = some (k0, ts)) (ht : ts.contains t = true) (hpf : am_pf M t k0 = true) (hnr : narrow (am_ty t k0) v = v) (hfit : fits (am_ty t k0) v = true) (hBa : B ≤ a) (hdg : decode M.2.2.1 pc = .ok (.putfield i, 3)) (k : am_V p l e R s m args below meth c Q D B M cells slots (pc + 3) L S (am_put h a (t, fs.set k0 v))) : am_V p l e R s m args below meth c Q D B M cells slots pc L (v :: .ref a :: S) h := by
  obtain ⟨hx, hb, hml, hr, hlk, hown, hts, hK, hnm, hM⟩ := X
  unfold am_fld at hf
  rw [Option.map_eq_some_iff] at hf
  obtain ⟨q, hq, hv⟩ := hf
  have hi : q.1 = i := by simpa using List.find?_some hq
  have hck := List.all_eq_true.mp (am_fck_ok M.1 hM) q (List.mem_of_find?_eq_some hq)
  cases hv
  subst hi
  unfold am_fck at hck
  have hck := List.all_eq_true.mp hck t (List.contains_iff_mem.mp ht)
  split at hck
  rotate_left
  · cases hck
  rename_i r hr2
  rw [Bool.and_eq_true, Bool.and_eq_true] at hck
  obtain ⟨hkN, hlink, hsame⟩ := hck
  have hkN := of_decide_eq_true hkN
  have hlink := hts _ (am_w_in hlink)
  have hsame : ∀ z, s.fieldFound? (r.2.1 q.2.1).1 (r.2.1 q.2.1).2.1 (r.2.1 q.2.1).2.2.1 = some z → s.fieldFound? q.2.2.2.1 (r.2.1 q.2.1).2.1 (r.2.1 q.2.1).2.2.1 = some z := by
    rw [Bool.or_eq_true] at hsame
    rcases hsame with q1 | q1
    · rw [of_decide_eq_true q1]; exact fun z hz => hz
    · exact u_same (hts _ (am_w_in q1))
  obtain ⟨hin, hty, hnmm, hN⟩ := am_cls_ok t r hr2
  intro H locs ls hP hL hF
  
  rcases hP.2.2 a t fs ha with ⟨r', g1, g2, cell, q1, q2, q3, q4⟩ | ⟨g1, -⟩
  rotate_left
  · exact absurd (am_lt13 hr2) (by omega)
  have hrr : r' = r := Option.some.inj (g1.symm.trans hr2)
  subst hrr
  obtain ⟨hS, hfc, kC, hkC, hkind⟩ := hK.1 t _ hr2
  obtain ⟨cf, kf, fi, f, hi, hsl⟩ := hS _ hkN
  
  have hap : ∀ x y, x < r'.2.2 → y < r'.2.2 → x ≠ y → (D.2.1 t) x ≠ (D.2.1 t) y := by
    intro x y hx1 hy1 hne
    obtain ⟨_, _, _, fa, hia, ea⟩ := hS x hx1
    obtain ⟨_, _, _, fb, hib, eb⟩ := hS y hy1
    rw [← ea, ← eb]
    refine u_apart (u_lays hts hin hx1) (u_lays hts hin hy1) hia hib ?_
    rw [(State.fieldFound?_type hia (hty x hx1)).1, (State.fieldFound?_type hib (hty y hy1)).1]
    exact hnmm x hx1 y hy1 hne
  have hst := (u_facts hfc hkC (u_lays hts hin hkN) hi).1
  have hkl : q.2.1 < fs.length := by rw [g2]; exact hkN
  have done : ∀ H' : Heap, H'[a]? = some (cell.setSlot f.slot v) → H'.size = H.size → (∀ z, z ≠ a → H'[z]? = H[z]?) → W p l e R s m args below meth c H' (locs ++ [⟨a, f.slot⟩]) cells slots Q (F0 m (pc + 3) ls S) := by
    intro H' e1 e2 e3
    rw [hsl] at e1
    refine k H' _ ls (hP.put e2 e3 (Or.inl ⟨_, hr2, by rw [List.length_set]; exact g2, t_OB.to (V := updV (vp_V fs) q.2.1 v) ⟨_, e1, q2, q3, t_set q4 hap hkN v⟩ (fun j _ => vp_updV_set hkl v j)⟩)) hL (fun z hz => ?_)
    rcases List.mem_append.mp hz with z1 | z1
    · exact hF z z1
    · rw [List.mem_singleton.mp z1]; exact hBa
  have hlay := hts _ (hin _ (u_in_lay hkN))
  unfold u_lay at hlay
  unfold am_pf at hpf
  rw [hr2] at hpf
  by_cases hfin : (r'.2.1 q.2.1).2.2.2 = true
  · rw [if_pos hfin] at hlay
    have hpf : (decide (M.2.1.name = "<init>") && decide ((r'.2.1 q.2.1).1 = am_R M.1)) = true := by simpa [hfin] using hpf
    rw [Bool.and_eq_true] at hpf
    have hcf : m.cls = cf := by
      obtain ⟨_, _, c', _, _, _, -, -, hf', -, -, -, hown2, -⟩ := Cond.laysFinal_spec hlay
      have e1 : c' = cf := by have := hi.symm.trans hf'; simp at this; exact this.1.symm
      rw [of_decide_eq_true hpf.2] at hown2
      rw [← e1]; exact Option.some.inj (hown.symm.trans hown2)
    have h6 := u_fits hfc hkC hkind (Or.inr hlay) hi (hty _ hkN) hnr hfit
    exact W.putFinK hx hb hown hlink (hsame _ hi) hst hcf (hnm.trans (of_decide_eq_true hpf.1)) (by rw [q2]; exact h6) q1 q3 (by rw [hsl]; exact k2_hasslot (q4 _ hkN)) rfl rfl hdg done
  · rw [if_neg hfin] at hlay
    have h6 := u_store hfc hkC hkind hlay hi (hty _ hkN) hnr hfit
    exact W.putK hx hb (f := f) ⟨hown, hlink, ⟨_, _, _, hsame _ hi⟩, hst⟩ (by rw [q2]; exact h6) q1 q3 (by rw [hsl]; exact k2_hasslot (q4 _ hkN)) rfl rfl hdg done
theorem am_v_iald (X : am_Cx D p s m args meth c M) {a t : Nat} {fs : List Value} {j : Int32} {v : Value} (ha : h.1 a = some (t, fs)) (hv0 : fs[j.toNatClampNeg]? = some v) (ht : 20 ≤ t ∧ t < 21) (hj : ¬ j < 0) (hdg : decode M.2.2.1 pc = .ok (.iaload, 1)) (k : am_V p l e R s m args below meth c Q D B M cells slots (pc + 1) L (v :: S) h) : am_V p l e R s m args below meth c Q D B M cells slots pc L (.int j :: .ref a :: S) h := by
  obtain ⟨hx, hb, hml, hr, hlk, hown, hts, hK, hnm, hM⟩ := X
  intro H locs ls hP hL hF
  
  rcases hP.2.2 a t fs ha with ⟨r', g1, -⟩ | ⟨g1, g2⟩
  · exact absurd (am_lt13 g1) (by omega)
  have harr := (hK.2.1 t g1.1 g1.2).1 fs.length (vp_V fs)
  
  have hlt : j.toNatClampNeg < fs.length := (List.getElem?_eq_some_iff.mp hv0).1
  have hin : ¬ (j < 0 ∨ (arrV (D.2.2 t) fs.length (vp_V fs)).slots.size ≤ j.toNatClampNeg) := by
    rw [arrV_size]
    rintro (z | z)
    · exact hj z
    · omega
  have hv1 : (arrV (D.2.2 t) fs.length (vp_V fs)).slots[j.toNatClampNeg]? = some v := by rw [arrV_read _ _ hlt, am_vV hv0]
  
  obtain rfl : t = 20 := by omega
  exact W.iald hx hb g2 harr (fun z => by cases z) hin hv1 rfl rfl hdg (k H locs ls hP hL hF)
theorem am_v_lald (X : am_Cx D p s m args meth c M) {a t : Nat} {fs : List Value} {j : Int32} {v : Value} (ha : h.1 a = some (t, fs)) (hv0 : fs[j.toNatClampNeg]? = some v) (ht : 21 ≤ t ∧ t < 22) (hj : ¬ j < 0) (hdg : decode M.2.2.1 pc = .ok (.laload, 1)) (k : am_V p l e R s m args below meth c Q D B M cells slots (pc + 1) L (v :: S) h) : am_V p l e R s m args below meth c Q D B M cells slots pc L (.int j :: .ref a :: S) h := by
  obtain ⟨hx, hb, hml, hr, hlk, hown, hts, hK, hnm, hM⟩ := X
  intro H locs ls hP hL hF
  
  rcases hP.2.2 a t fs ha with ⟨r', g1, -⟩ | ⟨g1, g2⟩
  · exact absurd (am_lt13 g1) (by omega)
  have harr := (hK.2.1 t g1.1 g1.2).1 fs.length (vp_V fs)
  
  have hlt : j.toNatClampNeg < fs.length := (List.getElem?_eq_some_iff.mp hv0).1
  have hin : ¬ (j < 0 ∨ (arrV (D.2.2 t) fs.length (vp_V fs)).slots.size ≤ j.toNatClampNeg) := by
    rw [arrV_size]
    rintro (z | z)
    · exact hj z
    · omega
  have hv1 : (arrV (D.2.2 t) fs.length (vp_V fs)).slots[j.toNatClampNeg]? = some v := by rw [arrV_read _ _ hlt, am_vV hv0]
  
  obtain rfl : t = 21 := by omega
  exact W.lald hx hb g2 harr (fun z => by cases z) hin hv1 rfl rfl hdg (k H locs ls hP hL hF)
theorem am_v_aald (X : am_Cx D p s m args meth c M) {a t : Nat} {fs : List Value} {j : Int32} {v : Value} (ha : h.1 a = some (t, fs)) (hv0 : fs[j.toNatClampNeg]? = some v) (ht : 22 ≤ t ∧ t < 26) (hj : ¬ j < 0) (hdg : decode M.2.2.1 pc = .ok (.aaload, 1)) (k : am_V p l e R s m args below meth c Q D B M cells slots (pc + 1) L (v :: S) h) : am_V p l e R s m args below meth c Q D B M cells slots pc L (.int j :: .ref a :: S) h := by
  obtain ⟨hx, hb, hml, hr, hlk, hown, hts, hK, hnm, hM⟩ := X
  intro H locs ls hP hL hF
  
  rcases hP.2.2 a t fs ha with ⟨r', g1, -⟩ | ⟨g1, g2⟩
  · exact absurd (am_lt13 g1) (by omega)
  have harr := (hK.2.1 t g1.1 g1.2).1 fs.length (vp_V fs)
  
  have hlt : j.toNatClampNeg < fs.length := (List.getElem?_eq_some_iff.mp hv0).1
  have hin : ¬ (j < 0 ∨ (arrV (D.2.2 t) fs.length (vp_V fs)).slots.size ≤ j.toNatClampNeg) := by
    rw [arrV_size]
    rintro (z | z)
    · exact hj z
    · omega
  have hv1 : (arrV (D.2.2 t) fs.length (vp_V fs)).slots[j.toNatClampNeg]? = some v := by rw [arrV_read _ _ hlt, am_vV hv0]
  
  have hrf : (am_aty t).isReference = true := by
    rcases (show t = 22 ∨ t = 23 ∨ t = 24 ∨ t = 25 by omega) with rfl | rfl | rfl | rfl <;> rfl
  exact W.aald hx hb g2 harr hrf (fun z => by cases z) hin hv1 rfl rfl hdg (k H locs ls hP hL hF)
theorem am_v_iast (X : am_Cx D p s m args meth c M) {a t : Nat} {fs : List Value} {j : Int32} {x : Int32} (ha : h.1 a = some (t, fs)) (ht : t = 20) (hj : ¬ j < 0) (hlt : j.toNatClampNeg < fs.length) (hBa : B ≤ a) (hdg : decode M.2.2.1 pc = .ok (.iastore, 1)) (k : am_V p l e R s m args below meth c Q D B M cells slots (pc + 1) L S (am_put h a (t, fs.set j.toNatClampNeg (.int x)))) : am_V p l e R s m args below meth c Q D B M cells slots pc L ((.int x) :: .int j :: .ref a :: S) h := by
  obtain ⟨hx, hb, hml, hr, hlk, hown, hts, hK, hnm, hM⟩ := X
  intro H locs ls hP hL hF
  
  rcases hP.2.2 a t fs ha with ⟨r', g1, -⟩ | ⟨g1, g2⟩
  · exact absurd (am_lt13 g1) (by omega)
  have harr := (hK.2.1 t g1.1 g1.2).1 fs.length (vp_V fs)
  
  have hin : ¬ (j < 0 ∨ (arrV (D.2.2 t) fs.length (vp_V fs)).slots.size ≤ j.toNatClampNeg) := by
    rw [arrV_size]
    rintro (z | z)
    · exact hj z
    · omega
  have done : ∀ H' : Heap, H'[a]? = some ((arrV (D.2.2 t) fs.length (vp_V fs)).setSlot j.toNatClampNeg (.int x)) → H'.size = H.size → (∀ z, z ≠ a → H'[z]? = H[z]?) → W p l e R s m args below meth c H' (locs ++ [⟨a, j.toNatClampNeg⟩]) cells slots Q (F0 m (pc + 1) ls S) := by
    intro H' e1 e2 e3
    rw [am_set _ hlt] at e1
    refine k H' _ ls (hP.put e2 e3 (Or.inr ⟨g1, e1⟩)) hL (fun z hz => ?_)
    rcases List.mem_append.mp hz with z1 | z1
    · exact hF z z1
    · rw [List.mem_singleton.mp z1]; exact hBa
  subst ht
  exact W.iast hx hb g2 harr (fun z => by cases z) hin rfl rfl hdg done
theorem am_v_last (X : am_Cx D p s m args meth c M) {a t : Nat} {fs : List Value} {j : Int32} {x : Int64} (ha : h.1 a = some (t, fs)) (ht : t = 21) (hj : ¬ j < 0) (hlt : j.toNatClampNeg < fs.length) (hBa : B ≤ a) (hdg : decode M.2.2.1 pc = .ok (.lastore, 1)) (k : am_V p l e R s m args below meth c Q D B M cells slots (pc + 1) L S (am_put h a (t, fs.set j.toNatClampNeg (.long x)))) : am_V p l e R s m args below meth c Q D B M cells slots pc L ((.long x) :: .int j :: .ref a :: S) h := by
  obtain ⟨hx, hb, hml, hr, hlk, hown, hts, hK, hnm, hM⟩ := X
  intro H locs ls hP hL hF
  
  rcases hP.2.2 a t fs ha with ⟨r', g1, -⟩ | ⟨g1, g2⟩
  · exact absurd (am_lt13 g1) (by omega)
  have harr := (hK.2.1 t g1.1 g1.2).1 fs.length (vp_V fs)
  
  have hin : ¬ (j < 0 ∨ (arrV (D.2.2 t) fs.length (vp_V fs)).slots.size ≤ j.toNatClampNeg) := by
    rw [arrV_size]
    rintro (z | z)
    · exact hj z
    · omega
  have done : ∀ H' : Heap, H'[a]? = some ((arrV (D.2.2 t) fs.length (vp_V fs)).setSlot j.toNatClampNeg (.long x)) → H'.size = H.size → (∀ z, z ≠ a → H'[z]? = H[z]?) → W p l e R s m args below meth c H' (locs ++ [⟨a, j.toNatClampNeg⟩]) cells slots Q (F0 m (pc + 1) ls S) := by
    intro H' e1 e2 e3
    rw [am_set _ hlt] at e1
    refine k H' _ ls (hP.put e2 e3 (Or.inr ⟨g1, e1⟩)) hL (fun z hz => ?_)
    rcases List.mem_append.mp hz with z1 | z1
    · exact hF z z1
    · rw [List.mem_singleton.mp z1]; exact hBa
  subst ht
  exact W.last hx hb g2 harr (fun z => by cases z) hin rfl rfl hdg done
theorem am_v_aastN (X : am_Cx D p s m args meth c M) {a t : Nat} {fs : List Value} {j : Int32} (ha : h.1 a = some (t, fs)) (ht : 22 ≤ t ∧ t < 26) (hj : ¬ j < 0) (hlt : j.toNatClampNeg < fs.length) (hBa : B ≤ a) (hdg : decode M.2.2.1 pc = .ok (.aastore, 1)) (k : am_V p l e R s m args below meth c Q D B M cells slots (pc + 1) L S (am_put h a (t, fs.set j.toNatClampNeg .null))) : am_V p l e R s m args below meth c Q D B M cells slots pc L (.null :: .int j :: .ref a :: S) h := by
  obtain ⟨hx, hb, hml, hr, hlk, hown, hts, hK, hnm, hM⟩ := X
  intro H locs ls hP hL hF
  
  rcases hP.2.2 a t fs ha with ⟨r', g1, -⟩ | ⟨g1, g2⟩
  · exact absurd (am_lt13 g1) (by omega)
  have harr := (hK.2.1 t g1.1 g1.2).1 fs.length (vp_V fs)
  
  have hin : ¬ (j < 0 ∨ (arrV (D.2.2 t) fs.length (vp_V fs)).slots.size ≤ j.toNatClampNeg) := by
    rw [arrV_size]
    rintro (z | z)
    · exact hj z
    · omega
  have done : ∀ H' : Heap, H'[a]? = some ((arrV (D.2.2 t) fs.length (vp_V fs)).setSlot j.toNatClampNeg .null) → H'.size = H.size → (∀ z, z ≠ a → H'[z]? = H[z]?) → W p l e R s m args below meth c H' (locs ++ [⟨a, j.toNatClampNeg⟩]) cells slots Q (F0 m (pc + 1) ls S) := by
    intro H' e1 e2 e3
    rw [am_set _ hlt] at e1
    refine k H' _ ls (hP.put e2 e3 (Or.inr ⟨g1, e1⟩)) hL (fun z hz => ?_)
    rcases List.mem_append.mp hz with z1 | z1
    · exact hF z z1
    · rw [List.mem_singleton.mp z1]; exact hBa
  
  have hc : am_aty t = .object (am_acn t) := by
    rcases (show t = 22 ∨ t = 23 ∨ t = 24 ∨ t = 25 by omega) with rfl | rfl | rfl | rfl <;> rfl
  rw [hc] at harr
  exact va_WaastN hx hb g2 harr (fun z => by cases z) hin rfl rfl hdg done
theorem am_v_aast (X : am_Cx D p s m args meth c M) {a t b t2 : Nat} {fs gs : List Value} {j : Int32} (ha : h.1 a = some (t, fs)) (hb0 : h.1 b = some (t2, gs)) (ht : 22 ≤ t ∧ t < 26) (hel : (am_ael t).contains t2 = true) (hj : ¬ j < 0) (hlt : j.toNatClampNeg < fs.length) (hBa : B ≤ a) (hdg : decode M.2.2.1 pc = .ok (.aastore, 1)) (k : am_V p l e R s m args below meth c Q D B M cells slots (pc + 1) L S (am_put h a (t, fs.set j.toNatClampNeg (.ref b)))) : am_V p l e R s m args below meth c Q D B M cells slots pc L (.ref b :: .int j :: .ref a :: S) h := by
  obtain ⟨hx, hb, hml, hr, hlk, hown, hts, hK, hnm, hM⟩ := X
  intro H locs ls hP hL hF
  
  rcases hP.2.2 a t fs ha with ⟨r', g1, -⟩ | ⟨g1, g2⟩
  · exact absurd (am_lt13 g1) (by omega)
  have harr := (hK.2.1 t g1.1 g1.2).1 fs.length (vp_V fs)
  
  have hin : ¬ (j < 0 ∨ (arrV (D.2.2 t) fs.length (vp_V fs)).slots.size ≤ j.toNatClampNeg) := by
    rw [arrV_size]
    rintro (z | z)
    · exact hj z
    · omega
  have done : ∀ H' : Heap, H'[a]? = some ((arrV (D.2.2 t) fs.length (vp_V fs)).setSlot j.toNatClampNeg (.ref b)) → H'.size = H.size → (∀ z, z ≠ a → H'[z]? = H[z]?) → W p l e R s m args below meth c H' (locs ++ [⟨a, j.toNatClampNeg⟩]) cells slots Q (F0 m (pc + 1) ls S) := by
    intro H' e1 e2 e3
    rw [am_set _ hlt] at e1
    refine k H' _ ls (hP.put e2 e3 (Or.inr ⟨g1, e1⟩)) hL (fun z hz => ?_)
    rcases List.mem_append.mp hz with z1 | z1
    · exact hF z z1
    · rw [List.mem_singleton.mp z1]; exact hBa
  
  have hmem : t2 ∈ am_ael t := List.contains_iff_mem.mp hel
  have hc : ∃ (ci : Nat) (q : vw_C), vwCl[ci]? = some q ∧ am_aty t = .object q.1 ∧ (t2 = ci ∨ (ci = 1 ∧ t2 ∈ [0, 1, 2, 3, 4, 6, 9, 10])) ∧ t2 < 13 := by
    rcases (show t = 22 ∨ t = 23 ∨ t = 24 ∨ t = 25 by omega) with rfl | rfl | rfl | rfl
    · have : t2 = 7 := by simpa [am_ael] using hmem
      exact ⟨7, _, rfl, rfl, Or.inl this, by omega⟩
    · have : t2 = 5 := by simpa [am_ael] using hmem
      exact ⟨5, _, rfl, rfl, Or.inl this, by omega⟩
    · have h2 : t2 ∈ [0, 1, 2, 3, 4, 6, 9, 10] := hmem
      refine ⟨1, _, rfl, rfl, Or.inr ⟨rfl, h2⟩, ?_⟩
      simp at h2
      omega
    · have : t2 = 8 := by simpa [am_ael] using hmem
      exact ⟨8, _, rfl, rfl, Or.inl this, by omega⟩
  obtain ⟨ci, q, hci, hty, hrel, ht13⟩ := hc
  rcases hP.2.2 b t2 gs hb0 with ⟨r2, b1, b2, cellb, c1, c2, c3, c4⟩ | ⟨b1, -⟩
  rotate_left
  · exact absurd ht13 (by omega)
  have hRA := (hK.2.1 t g1.1 g1.2).2
  rw [hty] at hRA
  obtain ⟨kA, comp, r1, r3, r4, r5⟩ := hRA
  obtain ⟨-, hfc, kC, hkC, hkind⟩ := hK.1 ci _ hci
  obtain ⟨-, hfc2, kC2, hkC2, hkind2⟩ := hK.1 t2 _ b1
  have hcomp : comp = D.1 ci := Option.some.inj (r4.symm.trans hfc)
  subst hcomp
  have hasg : s.vm.assignable (D.1 t2) (D.1 ci) = true := by
    rcases hrel with rfl | ⟨rfl, hm⟩
    · exact va_assign ⟨hfc2, kC2, hkC2, hkind2⟩
    · exact hK.2.2.2.2 t2 hm
  refine W.aast hx hb g2 (fun q z => by cases z) (fun z => by cases z) (k := kA) r1 r3 rfl hkC ⟨hj, by rw [arrV_size]; exact hlt⟩ c1 (fun q => by rw [c3]; exact fun z => by cases z) (kv := kC2) (by rw [c2]; exact hkC2) (by rw [c2]; exact hasg) rfl rfl hdg done
theorem am_v_alen (X : am_Cx D p s m args meth c M) {a t : Nat} {fs : List Value} (ha : h.1 a = some (t, fs)) (ht : 20 ≤ t ∧ t < 26) (hdg : decode M.2.2.1 pc = .ok (.arraylength, 1)) (k : am_V p l e R s m args below meth c Q D B M cells slots (pc + 1) L (.int (Int32.ofNat fs.length) :: S) h) : am_V p l e R s m args below meth c Q D B M cells slots pc L (.ref a :: S) h := by
  obtain ⟨hx, hb, hml, hr, hlk, hown, hts, hK, hnm, hM⟩ := X
  intro H locs ls hP hL hF
  
  rcases hP.2.2 a t fs ha with ⟨r', g1, -⟩ | ⟨g1, g2⟩
  · exact absurd (am_lt13 g1) (by omega)
  have harr := (hK.2.1 t g1.1 g1.2).1 fs.length (vp_V fs)
  
  exact W.alen hx hb g2 harr (by rw [arrV_size]) rfl rfl hdg (k H locs ls hP hL hF)
theorem am_v_new (X : am_Cx D p s m args meth c M) {i t : Nat} (hn : am_nw M.1 i = some t) (hc : cells + 1 ≤ R.cells) (hs : slots + am_N t ≤ R.slots) (hdg : decode M.2.2.1 pc = .ok (.new i, 3)) (k : am_V p l e R s m args below meth c Q D B M (cells + 1) (slots + am_N t) (pc + 3) L (.ref h.2.1 :: S) (am_new h (t, am_df t) (am_N t))) : am_V p l e R s m args below meth c Q D B M cells slots pc L S h := by
  obtain ⟨hx, hb, hml, hr, hlk, hown, hts, hK, hnm, hM⟩ := X
  unfold am_nw at hn
  rw [Option.map_eq_some_iff] at hn
  obtain ⟨q, hq, hv⟩ := hn
  have hi : q.1 = i := by simpa using List.find?_some hq
  have hck := List.all_eq_true.mp (am_nck_ok M.1 hM) q (List.mem_of_find?_eq_some hq)
  subst hv
  subst hi
  unfold am_nck at hck
  split at hck
  rotate_left
  · cases hck
  rename_i r p1 p2 p3 hr2 hps
  rw [Bool.and_eq_true, Bool.and_eq_true] at hck
  obtain ⟨w1, w2, w3⟩ := hck
  obtain ⟨hin, hty, hnmm, hN⟩ := am_cls_ok _ r hr2
  have hKn := hK.1 _ _ hr2
  intro H locs ls hP hL hF
  
  refine W.newcK hx hb hown (hts _ (am_w_in w1)) (hts _ (am_w_in w2)) (hts _ (am_w_in w3)) rfl hdg hc (by rw [hN]; exact hs) hKn.2.1 rfl fun H1 kC hkC e1 z1 o1 => ?_
  rw [hN, hP.1]
  refine k H1 locs ls (hP.new z1 o1 (Or.inl ⟨r, hr2, ?_, (u_born (am_ty q.2.1) hts hin hKn hkC e1 hty).to ?_⟩)) hL hF
  · rw [am_df, List.length_map, List.length_range, hN]
  · intro j hj
    exact (am_vV (by rw [am_df, List.getElem?_map, List.getElem?_range (hN ▸ hj)]; rfl)).symm
theorem am_v_newaI (X : am_Cx D p s m args meth c M) {n : Int32} (hn : ¬ n < 0) (hsz : n.toNatClampNeg ≤ 100000) (hc : cells + 1 ≤ R.cells) (hs : slots + n.toNatClampNeg ≤ R.slots) (hdg : decode M.2.2.1 pc = .ok (.newarray .int, 2)) (k : am_V p l e R s m args below meth c Q D B M (cells + 1) (slots + n.toNatClampNeg) (pc + 2) L (.ref h.2.1 :: S) (am_new h (20, List.replicate n.toNatClampNeg (.int 0)) n.toNatClampNeg)) : am_V p l e R s m args below meth c Q D B M cells slots pc L (.int n :: S) h := by
  obtain ⟨hx, hb, hml, hr, hlk, hown, hts, hK, hnm, hM⟩ := X
  intro H locs ls hP hL hF
  
  refine va_newaK (atype := .int) hx hb (hts _ (am_ac20)) rfl hdg rfl hn rfl (Nat.le_trans (Nat.mul_le_mul hsz (Nat.le_refl _)) (Nat.le_of_ble_eq_true rfl)) hc hs rfl fun H1 cA e1 z1 o1 hAr hNm => ?_
  have hcA : cA = D.2.2 20 := Option.some.inj (hNm.symm.trans (hK.2.1 20 (by omega) (by omega)).2)
  subst hcA
  rw [hP.1]
  refine k H1 locs ls (hP.new z1 o1 (Or.inr ⟨by omega, ?_⟩)) hL hF
  rw [e1, List.length_replicate]
  congr 1
  exact am_arr fun j hj => (am_vV (by rw [List.getElem?_replicate, if_pos hj]; rfl)).symm
theorem am_v_newaL (X : am_Cx D p s m args meth c M) {n : Int32} (hn : ¬ n < 0) (hsz : n.toNatClampNeg ≤ 100000) (hc : cells + 1 ≤ R.cells) (hs : slots + n.toNatClampNeg ≤ R.slots) (hdg : decode M.2.2.1 pc = .ok (.newarray .long, 2)) (k : am_V p l e R s m args below meth c Q D B M (cells + 1) (slots + n.toNatClampNeg) (pc + 2) L (.ref h.2.1 :: S) (am_new h (21, List.replicate n.toNatClampNeg (.long 0)) n.toNatClampNeg)) : am_V p l e R s m args below meth c Q D B M cells slots pc L (.int n :: S) h := by
  obtain ⟨hx, hb, hml, hr, hlk, hown, hts, hK, hnm, hM⟩ := X
  intro H locs ls hP hL hF
  
  refine va_newaK (atype := .long) hx hb (hts _ (am_ac21)) rfl hdg rfl hn rfl (Nat.le_trans (Nat.mul_le_mul hsz (Nat.le_refl _)) (Nat.le_of_ble_eq_true rfl)) hc hs rfl fun H1 cA e1 z1 o1 hAr hNm => ?_
  have hcA : cA = D.2.2 21 := Option.some.inj (hNm.symm.trans (hK.2.1 21 (by omega) (by omega)).2)
  subst hcA
  rw [hP.1]
  refine k H1 locs ls (hP.new z1 o1 (Or.inr ⟨by omega, ?_⟩)) hL hF
  rw [e1, List.length_replicate]
  congr 1
  exact am_arr fun j hj => (am_vV (by rw [List.getElem?_replicate, if_pos hj]; rfl)).symm
theorem am_v_anew (X : am_Cx D p s m args meth c M) {i t : Nat} {n : Int32} (ht : am_an M.1 i = some t) (hn : ¬ n < 0) (hsz : n.toNatClampNeg ≤ 100000) (hc : cells + 1 ≤ R.cells) (hs : slots + n.toNatClampNeg ≤ R.slots) (hdg : decode M.2.2.1 pc = .ok (.anewarray i, 3)) (k : am_V p l e R s m args below meth c Q D B M (cells + 1) (slots + n.toNatClampNeg) (pc + 3) L (.ref h.2.1 :: S) (am_new h (t, List.replicate n.toNatClampNeg .null) n.toNatClampNeg)) : am_V p l e R s m args below meth c Q D B M cells slots pc L (.int n :: S) h := by
  obtain ⟨hx, hb, hml, hr, hlk, hown, hts, hK, hnm, hM⟩ := X
  unfold am_an at ht
  rw [Option.map_eq_some_iff] at ht
  obtain ⟨q, hq, hv⟩ := ht
  have hi : q.1 = i := by simpa using List.find?_some hq
  have hck := List.all_eq_true.mp (am_ack_ok M.1 hM) q (List.mem_of_find?_eq_some hq)
  subst hv
  subst hi
  unfold am_ack at hck
  rw [Bool.and_eq_true] at hck
  have h22 := of_decide_eq_true hck.1
  have w1 := am_w_in hck.2
  intro H locs ls hP hL hF
  
  refine W.anew hx hb hown (hts _ w1) ((hK.2.2.2.1 q.2.1 h22.1 h22.2).use) rfl hdg rfl hn (Nat.le_trans (Nat.mul_le_mul hsz (Nat.le_refl _)) (Nat.le_of_ble_eq_true rfl)) hc hs fun cA kA comp f1 f2 f3 f4 => ?_
  have hcA : cA = D.2.2 q.2.1 := by
    have hRA := (hK.2.1 q.2.1 (by omega) h22.2).2
    have hc : am_aty q.2.1 = .object (am_acn q.2.1) := by
      have h22' := h22
      generalize q.2.1 = t at h22'
      rcases (show t = 22 ∨ t = 23 ∨ t = 24 ∨ t = 25 by omega) with rfl | rfl | rfl | rfl <;> rfl
    rw [hc] at hRA
    obtain ⟨_, _, -, -, -, r5⟩ := hRA
    exact Option.some.inj (f1.symm.trans r5)
  subst hcA
  rw [hP.1]
  refine k _ locs ls (hP.new (by simp) (fun z hz => by rw [Array.getElem?_push, if_neg (Nat.ne_of_lt hz)]) (Or.inr ⟨⟨by omega, h22.2⟩, ?_⟩)) hL hF
  rw [List.length_replicate, arrV_new]
  simp only [Array.getElem?_push_size]
  congr 1
  exact am_arr fun j hj => (am_vV (by rw [List.getElem?_replicate, if_pos hj])).symm
end STEP
end
