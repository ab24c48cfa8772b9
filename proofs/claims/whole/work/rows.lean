section
-- ===== PART A: goes FIRST, ahead of the names: the tables' words, and 'selects' of the private methods out of them =====
/-- a private method of a class that the tables say can be made, by its rows of tables_1 -/
def lw_okq (q : MethodName × Nat) : Prop := (q.1.cls ≠ "java/lang/invoke/MethodHandle" ∧ q.1.cls ≠ "java/lang/invoke/VarHandle") ∧ Cond.instantiable q.1.cls q.2 ∈ tables_1 ∧ Cond.privateMethod q.1 ∈ tables_1 ∧ Cond.instanceMethod q.1 ∈ tables_1
theorem lw_p0 : lw_okq (⟨"TermIdeals", "noGenerator", "(II)Z"⟩, 11) := ⟨⟨by decide +kernel, by decide +kernel⟩, List.mem_of_getElem? (i := 15) (by decide +kernel), List.mem_of_getElem? (i := 266) (by decide +kernel), List.mem_of_getElem? (i := 267) (by decide +kernel)⟩
theorem lw_p1 : lw_okq (⟨"TermIdeals$Hull", "add", "(III)V"⟩, 4) := ⟨⟨by decide +kernel, by decide +kernel⟩, List.mem_of_getElem? (i := 146) (by decide +kernel), List.mem_of_getElem? (i := 319) (by decide +kernel), List.mem_of_getElem? (i := 320) (by decide +kernel)⟩
theorem lw_p2 : lw_okq (⟨"TermIdeals$Hull", "floorAt", "(I)I"⟩, 4) := ⟨⟨by decide +kernel, by decide +kernel⟩, List.mem_of_getElem? (i := 146) (by decide +kernel), List.mem_of_getElem? (i := 336) (by decide +kernel), List.mem_of_getElem? (i := 337) (by decide +kernel)⟩
theorem lw_p3 : lw_okq (⟨"TermIdeals$Text", "isDigit", "(I)Z"⟩, 2) := ⟨⟨by decide +kernel, by decide +kernel⟩, List.mem_of_getElem? (i := 112) (by decide +kernel), List.mem_of_getElem? (i := 390) (by decide +kernel), List.mem_of_getElem? (i := 391) (by decide +kernel)⟩
theorem lw_p4 : lw_okq (⟨"TermIdeals", "doClauses", "()I"⟩, 11) := ⟨⟨by decide +kernel, by decide +kernel⟩, List.mem_of_getElem? (i := 15) (by decide +kernel), List.mem_of_getElem? (i := 394) (by decide +kernel), List.mem_of_getElem? (i := 395) (by decide +kernel)⟩
theorem lw_p5 : lw_okq (⟨"TermIdeals", "doClause", "(I)I"⟩, 11) := ⟨⟨by decide +kernel, by decide +kernel⟩, List.mem_of_getElem? (i := 15) (by decide +kernel), List.mem_of_getElem? (i := 398) (by decide +kernel), List.mem_of_getElem? (i := 399) (by decide +kernel)⟩
theorem lw_p6 : lw_okq (⟨"TermIdeals", "closedness", "(LTermIdeals$Ideal;)I"⟩, 11) := ⟨⟨by decide +kernel, by decide +kernel⟩, List.mem_of_getElem? (i := 15) (by decide +kernel), List.mem_of_getElem? (i := 441) (by decide +kernel), List.mem_of_getElem? (i := 442) (by decide +kernel)⟩
theorem lw_p7 : lw_okq (⟨"TermIdeals", "countJumps", "(LTermIdeals$Ideal;)I"⟩, 11) := ⟨⟨by decide +kernel, by decide +kernel⟩, List.mem_of_getElem? (i := 15) (by decide +kernel), List.mem_of_getElem? (i := 450) (by decide +kernel), List.mem_of_getElem? (i := 451) (by decide +kernel)⟩
theorem lw_p8 : lw_okq (⟨"TermIdeals$JumpRow", "insert", "(II)V"⟩, 3) := ⟨⟨by decide +kernel, by decide +kernel⟩, List.mem_of_getElem? (i := 165) (by decide +kernel), List.mem_of_getElem? (i := 478) (by decide +kernel), List.mem_of_getElem? (i := 479) (by decide +kernel)⟩
theorem lw_p9 : lw_okq (⟨"TermIdeals$JumpRow", "insertAt", "(III)V"⟩, 3) := ⟨⟨by decide +kernel, by decide +kernel⟩, List.mem_of_getElem? (i := 165) (by decide +kernel), List.mem_of_getElem? (i := 486) (by decide +kernel), List.mem_of_getElem? (i := 487) (by decide +kernel)⟩
theorem lw_p10 : lw_okq (⟨"TermIdeals", "countBarred", "(LTermIdeals$Ideal;II)I"⟩, 11) := ⟨⟨by decide +kernel, by decide +kernel⟩, List.mem_of_getElem? (i := 15) (by decide +kernel), List.mem_of_getElem? (i := 555) (by decide +kernel), List.mem_of_getElem? (i := 556) (by decide +kernel)⟩
theorem lw_p11 : lw_okq (⟨"TermIdeals", "reduction", "()I"⟩, 11) := ⟨⟨by decide +kernel, by decide +kernel⟩, List.mem_of_getElem? (i := 15) (by decide +kernel), List.mem_of_getElem? (i := 596) (by decide +kernel), List.mem_of_getElem? (i := 597) (by decide +kernel)⟩
theorem lw_p12 : lw_okq (⟨"TermIdeals", "met", "()I"⟩, 11) := ⟨⟨by decide +kernel, by decide +kernel⟩, List.mem_of_getElem? (i := 15) (by decide +kernel), List.mem_of_getElem? (i := 600) (by decide +kernel), List.mem_of_getElem? (i := 601) (by decide +kernel)⟩
theorem lw_p13 : lw_okq (⟨"TermIdeals", "fitsWith", "(IIII)Z"⟩, 11) := ⟨⟨by decide +kernel, by decide +kernel⟩, List.mem_of_getElem? (i := 15) (by decide +kernel), List.mem_of_getElem? (i := 624) (by decide +kernel), List.mem_of_getElem? (i := 625) (by decide +kernel)⟩
theorem lw_p14 : lw_okq (⟨"TermIdeals", "isAsSeen", "(LTermIdeals$Ideal;)Z"⟩, 11) := ⟨⟨by decide +kernel, by decide +kernel⟩, List.mem_of_getElem? (i := 15) (by decide +kernel), List.mem_of_getElem? (i := 628) (by decide +kernel), List.mem_of_getElem? (i := 629) (by decide +kernel)⟩
theorem lw_p15 : lw_okq (⟨"TermIdeals", "happen", "(II)V"⟩, 11) := ⟨⟨by decide +kernel, by decide +kernel⟩, List.mem_of_getElem? (i := 15) (by decide +kernel), List.mem_of_getElem? (i := 676) (by decide +kernel), List.mem_of_getElem? (i := 677) (by decide +kernel)⟩
def lw_privs_1 : List (MethodName × Nat) := [(⟨"TermIdeals", "noGenerator", "(II)Z"⟩, 11), (⟨"TermIdeals$Hull", "add", "(III)V"⟩, 4), (⟨"TermIdeals$Hull", "floorAt", "(I)I"⟩, 4), (⟨"TermIdeals$Text", "isDigit", "(I)Z"⟩, 2), (⟨"TermIdeals", "doClauses", "()I"⟩, 11), (⟨"TermIdeals", "doClause", "(I)I"⟩, 11), (⟨"TermIdeals", "closedness", "(LTermIdeals$Ideal;)I"⟩, 11), (⟨"TermIdeals", "countJumps", "(LTermIdeals$Ideal;)I"⟩, 11), (⟨"TermIdeals$JumpRow", "insert", "(II)V"⟩, 3), (⟨"TermIdeals$JumpRow", "insertAt", "(III)V"⟩, 3), (⟨"TermIdeals", "countBarred", "(LTermIdeals$Ideal;II)I"⟩, 11), (⟨"TermIdeals", "reduction", "()I"⟩, 11), (⟨"TermIdeals", "met", "()I"⟩, 11), (⟨"TermIdeals", "fitsWith", "(IIII)Z"⟩, 11), (⟨"TermIdeals", "isAsSeen", "(LTermIdeals$Ideal;)Z"⟩, 11), (⟨"TermIdeals", "happen", "(II)V"⟩, 11)]
theorem lw_r1 : ∀ q ∈ lw_privs_1, lw_okq q := List.forall_mem_cons.mpr ⟨lw_p0, List.forall_mem_cons.mpr ⟨lw_p1, List.forall_mem_cons.mpr ⟨lw_p2, List.forall_mem_cons.mpr ⟨lw_p3, List.forall_mem_cons.mpr ⟨lw_p4, List.forall_mem_cons.mpr ⟨lw_p5, List.forall_mem_cons.mpr ⟨lw_p6, List.forall_mem_cons.mpr ⟨lw_p7, List.forall_mem_cons.mpr ⟨lw_p8, List.forall_mem_cons.mpr ⟨lw_p9, List.forall_mem_cons.mpr ⟨lw_p10, List.forall_mem_cons.mpr ⟨lw_p11, List.forall_mem_cons.mpr ⟨lw_p12, List.forall_mem_cons.mpr ⟨lw_p13, List.forall_mem_cons.mpr ⟨lw_p14, List.forall_mem_cons.mpr ⟨lw_p15, fun _ h => absurd h List.not_mem_nil⟩⟩⟩⟩⟩⟩⟩⟩⟩⟩⟩⟩⟩⟩⟩⟩
theorem lw_p16 : lw_okq (⟨"TermIdeals$Tape", "narrow", "(J)J"⟩, 3) := ⟨⟨by decide +kernel, by decide +kernel⟩, List.mem_of_getElem? (i := 127) (by decide +kernel), List.mem_of_getElem? (i := 766) (by decide +kernel), List.mem_of_getElem? (i := 767) (by decide +kernel)⟩
theorem lw_p17 : lw_okq (⟨"TermIdealsModel", "which", "(III)I"⟩, 46) := ⟨⟨by decide +kernel, by decide +kernel⟩, List.mem_of_getElem? (i := 784) (by decide +kernel), List.mem_of_getElem? (i := 943) (by decide +kernel), List.mem_of_getElem? (i := 944) (by decide +kernel)⟩
theorem lw_p18 : lw_okq (⟨"TermIdealsModel", "a", "(II)I"⟩, 46) := ⟨⟨by decide +kernel, by decide +kernel⟩, List.mem_of_getElem? (i := 784) (by decide +kernel), List.mem_of_getElem? (i := 947) (by decide +kernel), List.mem_of_getElem? (i := 948) (by decide +kernel)⟩
theorem lw_p19 : lw_okq (⟨"TermIdealsModel", "b", "(II)I"⟩, 46) := ⟨⟨by decide +kernel, by decide +kernel⟩, List.mem_of_getElem? (i := 784) (by decide +kernel), List.mem_of_getElem? (i := 951) (by decide +kernel), List.mem_of_getElem? (i := 952) (by decide +kernel)⟩
theorem lw_p20 : lw_okq (⟨"TermIdealsModel", "deed", "(I)V"⟩, 46) := ⟨⟨by decide +kernel, by decide +kernel⟩, List.mem_of_getElem? (i := 784) (by decide +kernel), List.mem_of_getElem? (i := 955) (by decide +kernel), List.mem_of_getElem? (i := 956) (by decide +kernel)⟩
theorem lw_p21 : lw_okq (⟨"TermIdealsModel", "comes", "(III)V"⟩, 46) := ⟨⟨by decide +kernel, by decide +kernel⟩, List.mem_of_getElem? (i := 784) (by decide +kernel), List.mem_of_getElem? (i := 959) (by decide +kernel), List.mem_of_getElem? (i := 960) (by decide +kernel)⟩
theorem lw_p22 : lw_okq (⟨"TermIdealsModel", "isGenerator", "(II)Z"⟩, 46) := ⟨⟨by decide +kernel, by decide +kernel⟩, List.mem_of_getElem? (i := 784) (by decide +kernel), List.mem_of_getElem? (i := 967) (by decide +kernel), List.mem_of_getElem? (i := 968) (by decide +kernel)⟩
theorem lw_p23 : lw_okq (⟨"TermIdealsModel", "goes", "(II)V"⟩, 46) := ⟨⟨by decide +kernel, by decide +kernel⟩, List.mem_of_getElem? (i := 784) (by decide +kernel), List.mem_of_getElem? (i := 971) (by decide +kernel), List.mem_of_getElem? (i := 972) (by decide +kernel)⟩
theorem lw_p24 : lw_okq (⟨"TermIdealsModel", "tellsFaces", "(I)V"⟩, 46) := ⟨⟨by decide +kernel, by decide +kernel⟩, List.mem_of_getElem? (i := 784) (by decide +kernel), List.mem_of_getElem? (i := 987) (by decide +kernel), List.mem_of_getElem? (i := 988) (by decide +kernel)⟩
theorem lw_p25 : lw_okq (⟨"TermIdealsModel", "comesFace", "(III)V"⟩, 46) := ⟨⟨by decide +kernel, by decide +kernel⟩, List.mem_of_getElem? (i := 784) (by decide +kernel), List.mem_of_getElem? (i := 991) (by decide +kernel), List.mem_of_getElem? (i := 992) (by decide +kernel)⟩
theorem lw_p26 : lw_okq (⟨"TermIdealsModel", "levelOf", "(III)I"⟩, 46) := ⟨⟨by decide +kernel, by decide +kernel⟩, List.mem_of_getElem? (i := 784) (by decide +kernel), List.mem_of_getElem? (i := 995) (by decide +kernel), List.mem_of_getElem? (i := 996) (by decide +kernel)⟩
theorem lw_p27 : lw_okq (⟨"TermIdealsModel", "metBy", "(IIII)I"⟩, 46) := ⟨⟨by decide +kernel, by decide +kernel⟩, List.mem_of_getElem? (i := 784) (by decide +kernel), List.mem_of_getElem? (i := 1003) (by decide +kernel), List.mem_of_getElem? (i := 1004) (by decide +kernel)⟩
theorem lw_p28 : lw_okq (⟨"TermIdealsModel", "isCorner", "(II)Z"⟩, 46) := ⟨⟨by decide +kernel, by decide +kernel⟩, List.mem_of_getElem? (i := 784) (by decide +kernel), List.mem_of_getElem? (i := 1007) (by decide +kernel), List.mem_of_getElem? (i := 1008) (by decide +kernel)⟩
theorem lw_p29 : lw_okq (⟨"TermIdealsModel", "isInHull", "(II)Z"⟩, 46) := ⟨⟨by decide +kernel, by decide +kernel⟩, List.mem_of_getElem? (i := 784) (by decide +kernel), List.mem_of_getElem? (i := 1011) (by decide +kernel), List.mem_of_getElem? (i := 1012) (by decide +kernel)⟩
theorem lw_p30 : lw_okq (⟨"TermIdealsModel", "clauses", "()I"⟩, 46) := ⟨⟨by decide +kernel, by decide +kernel⟩, List.mem_of_getElem? (i := 784) (by decide +kernel), List.mem_of_getElem? (i := 1028) (by decide +kernel), List.mem_of_getElem? (i := 1029) (by decide +kernel)⟩
theorem lw_p31 : lw_okq (⟨"TermIdealsModel", "clause", "()I"⟩, 46) := ⟨⟨by decide +kernel, by decide +kernel⟩, List.mem_of_getElem? (i := 784) (by decide +kernel), List.mem_of_getElem? (i := 1032) (by decide +kernel), List.mem_of_getElem? (i := 1033) (by decide +kernel)⟩
def lw_privs_2 : List (MethodName × Nat) := [(⟨"TermIdeals$Tape", "narrow", "(J)J"⟩, 3), (⟨"TermIdealsModel", "which", "(III)I"⟩, 46), (⟨"TermIdealsModel", "a", "(II)I"⟩, 46), (⟨"TermIdealsModel", "b", "(II)I"⟩, 46), (⟨"TermIdealsModel", "deed", "(I)V"⟩, 46), (⟨"TermIdealsModel", "comes", "(III)V"⟩, 46), (⟨"TermIdealsModel", "isGenerator", "(II)Z"⟩, 46), (⟨"TermIdealsModel", "goes", "(II)V"⟩, 46), (⟨"TermIdealsModel", "tellsFaces", "(I)V"⟩, 46), (⟨"TermIdealsModel", "comesFace", "(III)V"⟩, 46), (⟨"TermIdealsModel", "levelOf", "(III)I"⟩, 46), (⟨"TermIdealsModel", "metBy", "(IIII)I"⟩, 46), (⟨"TermIdealsModel", "isCorner", "(II)Z"⟩, 46), (⟨"TermIdealsModel", "isInHull", "(II)Z"⟩, 46), (⟨"TermIdealsModel", "clauses", "()I"⟩, 46), (⟨"TermIdealsModel", "clause", "()I"⟩, 46)]
theorem lw_r2 : ∀ q ∈ lw_privs_2, lw_okq q := List.forall_mem_cons.mpr ⟨lw_p16, List.forall_mem_cons.mpr ⟨lw_p17, List.forall_mem_cons.mpr ⟨lw_p18, List.forall_mem_cons.mpr ⟨lw_p19, List.forall_mem_cons.mpr ⟨lw_p20, List.forall_mem_cons.mpr ⟨lw_p21, List.forall_mem_cons.mpr ⟨lw_p22, List.forall_mem_cons.mpr ⟨lw_p23, List.forall_mem_cons.mpr ⟨lw_p24, List.forall_mem_cons.mpr ⟨lw_p25, List.forall_mem_cons.mpr ⟨lw_p26, List.forall_mem_cons.mpr ⟨lw_p27, List.forall_mem_cons.mpr ⟨lw_p28, List.forall_mem_cons.mpr ⟨lw_p29, List.forall_mem_cons.mpr ⟨lw_p30, List.forall_mem_cons.mpr ⟨lw_p31, fun _ h => absurd h List.not_mem_nil⟩⟩⟩⟩⟩⟩⟩⟩⟩⟩⟩⟩⟩⟩⟩⟩
theorem lw_p32 : lw_okq (⟨"TermIdealsModel", "isDone", "(I)Z"⟩, 46) := ⟨⟨by decide +kernel, by decide +kernel⟩, List.mem_of_getElem? (i := 784) (by decide +kernel), List.mem_of_getElem? (i := 1041) (by decide +kernel), List.mem_of_getElem? (i := 1042) (by decide +kernel)⟩
theorem lw_p33 : lw_okq (⟨"TermIdealsModel", "isLeast", "(II)Z"⟩, 46) := ⟨⟨by decide +kernel, by decide +kernel⟩, List.mem_of_getElem? (i := 784) (by decide +kernel), List.mem_of_getElem? (i := 1056) (by decide +kernel), List.mem_of_getElem? (i := 1057) (by decide +kernel)⟩
theorem lw_p34 : lw_okq (⟨"TermIdealsModel", "leastMany", "(I)I"⟩, 46) := ⟨⟨by decide +kernel, by decide +kernel⟩, List.mem_of_getElem? (i := 784) (by decide +kernel), List.mem_of_getElem? (i := 1065) (by decide +kernel), List.mem_of_getElem? (i := 1066) (by decide +kernel)⟩
theorem lw_p35 : lw_okq (⟨"TermIdealsModel", "asked", "(II)I"⟩, 46) := ⟨⟨by decide +kernel, by decide +kernel⟩, List.mem_of_getElem? (i := 784) (by decide +kernel), List.mem_of_getElem? (i := 1069) (by decide +kernel), List.mem_of_getElem? (i := 1070) (by decide +kernel)⟩
theorem lw_p36 : lw_okq (⟨"TermIdealsModel", "isClosed", "(I)Z"⟩, 46) := ⟨⟨by decide +kernel, by decide +kernel⟩, List.mem_of_getElem? (i := 784) (by decide +kernel), List.mem_of_getElem? (i := 1073) (by decide +kernel), List.mem_of_getElem? (i := 1074) (by decide +kernel)⟩
theorem lw_p37 : lw_okq (⟨"TermIdealsModel", "isWithin", "(III)Z"⟩, 46) := ⟨⟨by decide +kernel, by decide +kernel⟩, List.mem_of_getElem? (i := 784) (by decide +kernel), List.mem_of_getElem? (i := 1077) (by decide +kernel), List.mem_of_getElem? (i := 1078) (by decide +kernel)⟩
theorem lw_p38 : lw_okq (⟨"TermIdealsModel", "tellsJumps", "()V"⟩, 46) := ⟨⟨by decide +kernel, by decide +kernel⟩, List.mem_of_getElem? (i := 784) (by decide +kernel), List.mem_of_getElem? (i := 1081) (by decide +kernel), List.mem_of_getElem? (i := 1082) (by decide +kernel)⟩
theorem lw_p39 : lw_okq (⟨"TermIdealsModel", "jumpFace", "(II)I"⟩, 46) := ⟨⟨by decide +kernel, by decide +kernel⟩, List.mem_of_getElem? (i := 784) (by decide +kernel), List.mem_of_getElem? (i := 1085) (by decide +kernel), List.mem_of_getElem? (i := 1086) (by decide +kernel)⟩
theorem lw_p40 : lw_okq (⟨"TermIdealsModel", "heavy", "(III)I"⟩, 46) := ⟨⟨by decide +kernel, by decide +kernel⟩, List.mem_of_getElem? (i := 784) (by decide +kernel), List.mem_of_getElem? (i := 1089) (by decide +kernel), List.mem_of_getElem? (i := 1090) (by decide +kernel)⟩
theorem lw_p41 : lw_okq (⟨"TermIdealsModel", "comesJump", "(II)V"⟩, 46) := ⟨⟨by decide +kernel, by decide +kernel⟩, List.mem_of_getElem? (i := 784) (by decide +kernel), List.mem_of_getElem? (i := 1096) (by decide +kernel), List.mem_of_getElem? (i := 1097) (by decide +kernel)⟩
theorem lw_p42 : lw_okq (⟨"TermIdealsModel", "barring", "(IIII)I"⟩, 46) := ⟨⟨by decide +kernel, by decide +kernel⟩, List.mem_of_getElem? (i := 784) (by decide +kernel), List.mem_of_getElem? (i := 1116) (by decide +kernel), List.mem_of_getElem? (i := 1117) (by decide +kernel)⟩
theorem lw_p43 : lw_okq (⟨"TermIdealsModel", "lacking", "(III)I"⟩, 46) := ⟨⟨by decide +kernel, by decide +kernel⟩, List.mem_of_getElem? (i := 784) (by decide +kernel), List.mem_of_getElem? (i := 1137) (by decide +kernel), List.mem_of_getElem? (i := 1138) (by decide +kernel)⟩
theorem lw_p44 : lw_okq (⟨"TermIdealsModel", "heightOf", "(II)I"⟩, 46) := ⟨⟨by decide +kernel, by decide +kernel⟩, List.mem_of_getElem? (i := 784) (by decide +kernel), List.mem_of_getElem? (i := 1148) (by decide +kernel), List.mem_of_getElem? (i := 1149) (by decide +kernel)⟩
theorem lw_p45 : lw_okq (⟨"TermIdealsModel", "powers", "(II)V"⟩, 46) := ⟨⟨by decide +kernel, by decide +kernel⟩, List.mem_of_getElem? (i := 784) (by decide +kernel), List.mem_of_getElem? (i := 1152) (by decide +kernel), List.mem_of_getElem? (i := 1153) (by decide +kernel)⟩
theorem lw_p46 : lw_okq (⟨"TermIdealsModel", "begins", "()V"⟩, 46) := ⟨⟨by decide +kernel, by decide +kernel⟩, List.mem_of_getElem? (i := 784) (by decide +kernel), List.mem_of_getElem? (i := 1156) (by decide +kernel), List.mem_of_getElem? (i := 1157) (by decide +kernel)⟩
theorem lw_p47 : lw_okq (⟨"TermIdealsModel", "times", "(I)V"⟩, 46) := ⟨⟨by decide +kernel, by decide +kernel⟩, List.mem_of_getElem? (i := 784) (by decide +kernel), List.mem_of_getElem? (i := 1160) (by decide +kernel), List.mem_of_getElem? (i := 1161) (by decide +kernel)⟩
def lw_privs_3 : List (MethodName × Nat) := [(⟨"TermIdealsModel", "isDone", "(I)Z"⟩, 46), (⟨"TermIdealsModel", "isLeast", "(II)Z"⟩, 46), (⟨"TermIdealsModel", "leastMany", "(I)I"⟩, 46), (⟨"TermIdealsModel", "asked", "(II)I"⟩, 46), (⟨"TermIdealsModel", "isClosed", "(I)Z"⟩, 46), (⟨"TermIdealsModel", "isWithin", "(III)Z"⟩, 46), (⟨"TermIdealsModel", "tellsJumps", "()V"⟩, 46), (⟨"TermIdealsModel", "jumpFace", "(II)I"⟩, 46), (⟨"TermIdealsModel", "heavy", "(III)I"⟩, 46), (⟨"TermIdealsModel", "comesJump", "(II)V"⟩, 46), (⟨"TermIdealsModel", "barring", "(IIII)I"⟩, 46), (⟨"TermIdealsModel", "lacking", "(III)I"⟩, 46), (⟨"TermIdealsModel", "heightOf", "(II)I"⟩, 46), (⟨"TermIdealsModel", "powers", "(II)V"⟩, 46), (⟨"TermIdealsModel", "begins", "()V"⟩, 46), (⟨"TermIdealsModel", "times", "(I)V"⟩, 46)]
theorem lw_r3 : ∀ q ∈ lw_privs_3, lw_okq q := List.forall_mem_cons.mpr ⟨lw_p32, List.forall_mem_cons.mpr ⟨lw_p33, List.forall_mem_cons.mpr ⟨lw_p34, List.forall_mem_cons.mpr ⟨lw_p35, List.forall_mem_cons.mpr ⟨lw_p36, List.forall_mem_cons.mpr ⟨lw_p37, List.forall_mem_cons.mpr ⟨lw_p38, List.forall_mem_cons.mpr ⟨lw_p39, List.forall_mem_cons.mpr ⟨lw_p40, List.forall_mem_cons.mpr ⟨lw_p41, List.forall_mem_cons.mpr ⟨lw_p42, List.forall_mem_cons.mpr ⟨lw_p43, List.forall_mem_cons.mpr ⟨lw_p44, List.forall_mem_cons.mpr ⟨lw_p45, List.forall_mem_cons.mpr ⟨lw_p46, List.forall_mem_cons.mpr ⟨lw_p47, fun _ h => absurd h List.not_mem_nil⟩⟩⟩⟩⟩⟩⟩⟩⟩⟩⟩⟩⟩⟩⟩⟩
theorem lw_p48 : lw_okq (⟨"TermIdealsModel", "heightAt", "(I)I"⟩, 46) := ⟨⟨by decide +kernel, by decide +kernel⟩, List.mem_of_getElem? (i := 784) (by decide +kernel), List.mem_of_getElem? (i := 1164) (by decide +kernel), List.mem_of_getElem? (i := 1165) (by decide +kernel)⟩
theorem lw_p49 : lw_okq (⟨"TermIdealsModel", "settles", "()V"⟩, 46) := ⟨⟨by decide +kernel, by decide +kernel⟩, List.mem_of_getElem? (i := 784) (by decide +kernel), List.mem_of_getElem? (i := 1168) (by decide +kernel), List.mem_of_getElem? (i := 1169) (by decide +kernel)⟩
theorem lw_p50 : lw_okq (⟨"TermIdealsModel", "sumHeight", "(I)I"⟩, 46) := ⟨⟨by decide +kernel, by decide +kernel⟩, List.mem_of_getElem? (i := 784) (by decide +kernel), List.mem_of_getElem? (i := 1172) (by decide +kernel), List.mem_of_getElem? (i := 1173) (by decide +kernel)⟩
theorem lw_p51 : lw_okq (⟨"TermIdealsModel", "isReduction", "()Z"⟩, 46) := ⟨⟨by decide +kernel, by decide +kernel⟩, List.mem_of_getElem? (i := 784) (by decide +kernel), List.mem_of_getElem? (i := 1180) (by decide +kernel), List.mem_of_getElem? (i := 1181) (by decide +kernel)⟩
theorem lw_p52 : lw_okq (⟨"TermIdealsModel", "isMetBy", "(I)Z"⟩, 46) := ⟨⟨by decide +kernel, by decide +kernel⟩, List.mem_of_getElem? (i := 784) (by decide +kernel), List.mem_of_getElem? (i := 1184) (by decide +kernel), List.mem_of_getElem? (i := 1185) (by decide +kernel)⟩
theorem lw_p53 : lw_okq (⟨"TermIdealsModel", "isSeen", "()Z"⟩, 46) := ⟨⟨by decide +kernel, by decide +kernel⟩, List.mem_of_getElem? (i := 784) (by decide +kernel), List.mem_of_getElem? (i := 1196) (by decide +kernel), List.mem_of_getElem? (i := 1197) (by decide +kernel)⟩
theorem lw_p54 : lw_okq (⟨"TermIdealsModel", "likens", "(II)V"⟩, 46) := ⟨⟨by decide +kernel, by decide +kernel⟩, List.mem_of_getElem? (i := 784) (by decide +kernel), List.mem_of_getElem? (i := 1218) (by decide +kernel), List.mem_of_getElem? (i := 1219) (by decide +kernel)⟩
theorem lw_p55 : lw_okq (⟨"TermIdealsModel", "happens", "(II)V"⟩, 46) := ⟨⟨by decide +kernel, by decide +kernel⟩, List.mem_of_getElem? (i := 784) (by decide +kernel), List.mem_of_getElem? (i := 1222) (by decide +kernel), List.mem_of_getElem? (i := 1223) (by decide +kernel)⟩
theorem lw_p56 : lw_okq (⟨"TermIdealsModel", "lessens", "(I)V"⟩, 46) := ⟨⟨by decide +kernel, by decide +kernel⟩, List.mem_of_getElem? (i := 784) (by decide +kernel), List.mem_of_getElem? (i := 1226) (by decide +kernel), List.mem_of_getElem? (i := 1227) (by decide +kernel)⟩
def lw_privs_4 : List (MethodName × Nat) := [(⟨"TermIdealsModel", "heightAt", "(I)I"⟩, 46), (⟨"TermIdealsModel", "settles", "()V"⟩, 46), (⟨"TermIdealsModel", "sumHeight", "(I)I"⟩, 46), (⟨"TermIdealsModel", "isReduction", "()Z"⟩, 46), (⟨"TermIdealsModel", "isMetBy", "(I)Z"⟩, 46), (⟨"TermIdealsModel", "isSeen", "()Z"⟩, 46), (⟨"TermIdealsModel", "likens", "(II)V"⟩, 46), (⟨"TermIdealsModel", "happens", "(II)V"⟩, 46), (⟨"TermIdealsModel", "lessens", "(I)V"⟩, 46)]
theorem lw_r4 : ∀ q ∈ lw_privs_4, lw_okq q := List.forall_mem_cons.mpr ⟨lw_p48, List.forall_mem_cons.mpr ⟨lw_p49, List.forall_mem_cons.mpr ⟨lw_p50, List.forall_mem_cons.mpr ⟨lw_p51, List.forall_mem_cons.mpr ⟨lw_p52, List.forall_mem_cons.mpr ⟨lw_p53, List.forall_mem_cons.mpr ⟨lw_p54, List.forall_mem_cons.mpr ⟨lw_p55, List.forall_mem_cons.mpr ⟨lw_p56, fun _ h => absurd h List.not_mem_nil⟩⟩⟩⟩⟩⟩⟩⟩⟩
def lw_privs : List (MethodName × Nat) := lw_privs_1 ++ (lw_privs_2 ++ (lw_privs_3 ++ (lw_privs_4)))
def lw_tbl : List Cond := k2_sels lw_privs ++ tables_1
theorem lw_privs_ok : ∀ q ∈ lw_privs, lw_okq q := by
  show ∀ q ∈ lw_privs_1 ++ (lw_privs_2 ++ (lw_privs_3 ++ (lw_privs_4))), lw_okq q
  exact List.forall_mem_append.mpr ⟨lw_r1, List.forall_mem_append.mpr ⟨lw_r2, List.forall_mem_append.mpr ⟨lw_r3, lw_r4⟩⟩⟩
def RX0 : String := "TermIdeals$Deeds"
def TX0 : u_T := fun k => match k with
  | 0 => ("TermIdeals$Deeds", "before", "[LTermIdeals$Ideal;", true)
  | 1 => ("TermIdeals$Deeds", "whose", "[I", true)
  | 2 => ("TermIdeals$Deeds", "next", "I", false)
  | _ => ("TermIdeals$Deeds", "size", "I", false)
def tyX0 : Nat → FieldType := fun k => match k with
  | 0 => .array (.object "TermIdeals$Ideal")
  | 1 => .array .int
  | 2 => .int
  | _ => .int
theorem nmX0 : ∀ a, a < 4 → ∀ b, b < 4 → a ≠ b → (TX0 a).2.1 ≠ (TX0 b).2.1 := by decide +kernel
theorem tyX0_ok : ∀ k, k < 4 → parseFieldDescriptor (TX0 k).2.2.1 = some (tyX0 k) := by decide +kernel
abbrev cX0_init : ByteArray := prog_2_method_1_code
def yX0_init : MethodName := ⟨RX0, "<init>", "()V"⟩
abbrev cX0_size : ByteArray := prog_2_method_2_code
def yX0_size : MethodName := ⟨RX0, "size", "()I"⟩
abbrev cX0_keep : ByteArray := prog_2_method_3_code
def yX0_keep : MethodName := ⟨RX0, "keep", "(ILTermIdeals$Ideal;)V"⟩
abbrev cX0_takeBack : ByteArray := prog_2_method_4_code
def yX0_takeBack : MethodName := ⟨RX0, "takeBack", "(LTermIdeals$Told;)V"⟩
abbrev cX0_forget : ByteArray := prog_2_method_5_code
def yX0_forget : MethodName := ⟨RX0, "forget", "()V"⟩
def RX1 : String := "TermIdeals$Heights"
def TX1 : u_T := fun k => match k with
  | _ => ("TermIdeals$Heights", "row", "[I", true)
def tyX1 : Nat → FieldType := fun k => match k with
  | _ => .array .int
theorem nmX1 : ∀ a, a < 1 → ∀ b, b < 1 → a ≠ b → (TX1 a).2.1 ≠ (TX1 b).2.1 := by decide +kernel
theorem tyX1_ok : ∀ k, k < 1 → parseFieldDescriptor (TX1 k).2.2.1 = some (tyX1 k) := by decide +kernel
abbrev cX1_init : ByteArray := prog_3_method_1_code
def yX1_init : MethodName := ⟨RX1, "<init>", "()V"⟩
abbrev cX1_ofAllTerms : ByteArray := prog_3_method_2_code
def yX1_ofAllTerms : MethodName := ⟨RX1, "ofAllTerms", "()V"⟩
abbrev cX1_multiply : ByteArray := prog_3_method_3_code
def yX1_multiply : MethodName := ⟨RX1, "multiply", "(LTermIdeals$Ideal;)V"⟩
abbrev cX1_at : ByteArray := prog_3_method_4_code
def yX1_at : MethodName := ⟨RX1, "at", "(I)I"⟩
abbrev cX1_isLike : ByteArray := prog_3_method_5_code
def yX1_isLike : MethodName := ⟨RX1, "isLike", "(LTermIdeals$Heights;)Z"⟩
def RX2 : String := "TermIdeals$Hull"
def TX2 : u_T := fun k => match k with
  | 0 => ("TermIdeals$Hull", "ss", "[I", true)
  | 1 => ("TermIdeals$Hull", "ts", "[I", true)
  | 2 => ("TermIdeals$Hull", "levels", "[I", true)
  | _ => ("TermIdeals$Hull", "size", "I", false)
def tyX2 : Nat → FieldType := fun k => match k with
  | 0 => .array .int
  | 1 => .array .int
  | 2 => .array .int
  | _ => .int
theorem nmX2 : ∀ a, a < 4 → ∀ b, b < 4 → a ≠ b → (TX2 a).2.1 ≠ (TX2 b).2.1 := by decide +kernel
theorem tyX2_ok : ∀ k, k < 4 → parseFieldDescriptor (TX2 k).2.2.1 = some (tyX2 k) := by decide +kernel
abbrev cX2_init : ByteArray := prog_4_method_1_code
def yX2_init : MethodName := ⟨RX2, "<init>", "()V"⟩
abbrev cX2_wrap : ByteArray := prog_4_method_2_code
def yX2_wrap : MethodName := ⟨RX2, "wrap", "(LTermIdeals$Ideal;)V"⟩
abbrev cX2_add : ByteArray := prog_4_method_3_code
def yX2_add : MethodName := ⟨RX2, "add", "(III)V"⟩
abbrev cX2_size : ByteArray := prog_4_method_4_code
def yX2_size : MethodName := ⟨RX2, "size", "()I"⟩
abbrev cX2_weightA : ByteArray := prog_4_method_5_code
def yX2_weightA : MethodName := ⟨RX2, "weightA", "(I)I"⟩
abbrev cX2_weightB : ByteArray := prog_4_method_6_code
def yX2_weightB : MethodName := ⟨RX2, "weightB", "(I)I"⟩
abbrev cX2_level : ByteArray := prog_4_method_7_code
def yX2_level : MethodName := ⟨RX2, "level", "(I)I"⟩
abbrev cX2_weigh : ByteArray := prog_4_method_8_code
def yX2_weigh : MethodName := ⟨RX2, "weigh", "(III)I"⟩
abbrev cX2_covers : ByteArray := prog_4_method_9_code
def yX2_covers : MethodName := ⟨RX2, "covers", "(II)Z"⟩
abbrev cX2_barring : ByteArray := prog_4_method_10_code
def yX2_barring : MethodName := ⟨RX2, "barring", "(IIII)I"⟩
abbrev cX2_tightest : ByteArray := prog_4_method_11_code
def yX2_tightest : MethodName := ⟨RX2, "tightest", "(II)I"⟩
abbrev cX2_floorAt : ByteArray := prog_4_method_12_code
def yX2_floorAt : MethodName := ⟨RX2, "floorAt", "(I)I"⟩
abbrev cX2_putCorners : ByteArray := prog_4_method_13_code
def yX2_putCorners : MethodName := ⟨RX2, "putCorners", "(LTermIdeals$Ideal;)I"⟩
def RX3 : String := "TermIdeals$Ideal"
def TX3 : u_T := fun k => match k with
  | 0 => ("TermIdeals$Ideal", "as", "[I", true)
  | 1 => ("TermIdeals$Ideal", "bs", "[I", true)
  | _ => ("TermIdeals$Ideal", "size", "I", false)
def tyX3 : Nat → FieldType := fun k => match k with
  | 0 => .array .int
  | 1 => .array .int
  | _ => .int
theorem nmX3 : ∀ a, a < 3 → ∀ b, b < 3 → a ≠ b → (TX3 a).2.1 ≠ (TX3 b).2.1 := by decide +kernel
theorem tyX3_ok : ∀ k, k < 3 → parseFieldDescriptor (TX3 k).2.2.1 = some (tyX3 k) := by decide +kernel
abbrev cX3_init : ByteArray := prog_5_method_1_code
def yX3_init : MethodName := ⟨RX3, "<init>", "()V"⟩
abbrev cX3_size : ByteArray := prog_5_method_2_code
def yX3_size : MethodName := ⟨RX3, "size", "()I"⟩
abbrev cX3_powerA : ByteArray := prog_5_method_3_code
def yX3_powerA : MethodName := ⟨RX3, "powerA", "(I)I"⟩
abbrev cX3_powerB : ByteArray := prog_5_method_4_code
def yX3_powerB : MethodName := ⟨RX3, "powerB", "(I)I"⟩
abbrev cX3_find : ByteArray := prog_5_method_5_code
def yX3_find : MethodName := ⟨RX3, "find", "(II)I"⟩
abbrev cX3_add : ByteArray := prog_5_method_6_code
def yX3_add : MethodName := ⟨RX3, "add", "(II)V"⟩
abbrev cX3_addIfNew : ByteArray := prog_5_method_7_code
def yX3_addIfNew : MethodName := ⟨RX3, "addIfNew", "(II)V"⟩
abbrev cX3_replace : ByteArray := prog_5_method_8_code
def yX3_replace : MethodName := ⟨RX3, "replace", "(III)V"⟩
abbrev cX3_remove : ByteArray := prog_5_method_9_code
def yX3_remove : MethodName := ⟨RX3, "remove", "(I)V"⟩
abbrev cX3_empty : ByteArray := prog_5_method_10_code
def yX3_empty : MethodName := ⟨RX3, "empty", "()V"⟩
abbrev cX3_copy : ByteArray := prog_5_method_11_code
def yX3_copy : MethodName := ⟨RX3, "copy", "(LTermIdeals$Ideal;)V"⟩
abbrev cX3_countUnknownTo : ByteArray := prog_5_method_12_code
def yX3_countUnknownTo : MethodName := ⟨RX3, "countUnknownTo", "(LTermIdeals$Ideal;)I"⟩
abbrev cX3_lessen : ByteArray := prog_5_method_13_code
def yX3_lessen : MethodName := ⟨RX3, "lessen", "(I)V"⟩
abbrev cX3_contains : ByteArray := prog_5_method_14_code
def yX3_contains : MethodName := ⟨RX3, "contains", "(II)Z"⟩
abbrev cX3_isLeast : ByteArray := prog_5_method_15_code
def yX3_isLeast : MethodName := ⟨RX3, "isLeast", "(I)Z"⟩
abbrev cX3_countLeast : ByteArray := prog_5_method_16_code
def yX3_countLeast : MethodName := ⟨RX3, "countLeast", "()I"⟩
abbrev cX3_lowestB : ByteArray := prog_5_method_17_code
def yX3_lowestB : MethodName := ⟨RX3, "lowestB", "(I)I"⟩
abbrev cX3_sumOfPowers : ByteArray := prog_5_method_18_code
def yX3_sumOfPowers : MethodName := ⟨RX3, "sumOfPowers", "()I"⟩
abbrev cX3_leastWeight : ByteArray := prog_5_method_19_code
def yX3_leastWeight : MethodName := ⟨RX3, "leastWeight", "(II)I"⟩
abbrev cX3_countOfWeight : ByteArray := prog_5_method_20_code
def yX3_countOfWeight : MethodName := ⟨RX3, "countOfWeight", "(III)I"⟩
def RX4 : String := "TermIdeals$JumpRow"
def TX4 : u_T := fun k => match k with
  | 0 => ("TermIdeals$JumpRow", "aboves", "[I", true)
  | 1 => ("TermIdeals$JumpRow", "belows", "[I", true)
  | _ => ("TermIdeals$JumpRow", "size", "I", false)
def tyX4 : Nat → FieldType := fun k => match k with
  | 0 => .array .int
  | 1 => .array .int
  | _ => .int
theorem nmX4 : ∀ a, a < 3 → ∀ b, b < 3 → a ≠ b → (TX4 a).2.1 ≠ (TX4 b).2.1 := by decide +kernel
theorem tyX4_ok : ∀ k, k < 3 → parseFieldDescriptor (TX4 k).2.2.1 = some (tyX4 k) := by decide +kernel
abbrev cX4_init : ByteArray := prog_6_method_1_code
def yX4_init : MethodName := ⟨RX4, "<init>", "()V"⟩
abbrev cX4_gather : ByteArray := prog_6_method_2_code
def yX4_gather : MethodName := ⟨RX4, "gather", "(LTermIdeals$Hull;)V"⟩
abbrev cX4_insert : ByteArray := prog_6_method_3_code
def yX4_insert : MethodName := ⟨RX4, "insert", "(II)V"⟩
abbrev cX4_insertAt : ByteArray := prog_6_method_4_code
def yX4_insertAt : MethodName := ⟨RX4, "insertAt", "(III)V"⟩
abbrev cX4_size : ByteArray := prog_6_method_5_code
def yX4_size : MethodName := ⟨RX4, "size", "()I"⟩
abbrev cX4_above : ByteArray := prog_6_method_6_code
def yX4_above : MethodName := ⟨RX4, "above", "(I)I"⟩
abbrev cX4_below : ByteArray := prog_6_method_7_code
def yX4_below : MethodName := ⟨RX4, "below", "(I)I"⟩
abbrev cX4_compare : ByteArray := prog_6_method_8_code
def yX4_compare : MethodName := ⟨RX4, "compare", "(III)I"⟩
def RX5 : String := "TermIdeals$Rows"
def TX5 : u_T := fun k => match k with
  | 0 => ("TermIdeals$Rows", "most", "I", true)
  | 1 => ("TermIdeals$Rows", "firsts", "[I", true)
  | 2 => ("TermIdeals$Rows", "seconds", "[I", true)
  | 3 => ("TermIdeals$Rows", "thirds", "[I", true)
  | _ => ("TermIdeals$Rows", "size", "I", false)
def tyX5 : Nat → FieldType := fun k => match k with
  | 0 => .int
  | 1 => .array .int
  | 2 => .array .int
  | 3 => .array .int
  | _ => .int
theorem nmX5 : ∀ a, a < 5 → ∀ b, b < 5 → a ≠ b → (TX5 a).2.1 ≠ (TX5 b).2.1 := by decide +kernel
theorem tyX5_ok : ∀ k, k < 5 → parseFieldDescriptor (TX5 k).2.2.1 = some (tyX5 k) := by decide +kernel
abbrev cX5_init : ByteArray := prog_7_method_1_code
def yX5_init : MethodName := ⟨RX5, "<init>", "(I)V"⟩
abbrev cX5_size : ByteArray := prog_7_method_2_code
def yX5_size : MethodName := ⟨RX5, "size", "()I"⟩
abbrev cX5_first : ByteArray := prog_7_method_3_code
def yX5_first : MethodName := ⟨RX5, "first", "(I)I"⟩
abbrev cX5_second : ByteArray := prog_7_method_4_code
def yX5_second : MethodName := ⟨RX5, "second", "(I)I"⟩
abbrev cX5_third : ByteArray := prog_7_method_5_code
def yX5_third : MethodName := ⟨RX5, "third", "(I)I"⟩
abbrev cX5_add : ByteArray := prog_7_method_6_code
def yX5_add : MethodName := ⟨RX5, "add", "(III)I"⟩
abbrev cX5_empty : ByteArray := prog_7_method_7_code
def yX5_empty : MethodName := ⟨RX5, "empty", "()V"⟩
abbrev cX5_copy : ByteArray := prog_7_method_8_code
def yX5_copy : MethodName := ⟨RX5, "copy", "(LTermIdeals$Rows;)V"⟩
def RX6 : String := "TermIdeals$Tape"
def TX6 : u_T := fun k => match k with
  | 0 => ("TermIdeals$Tape", "items", "[J", true)
  | 1 => ("TermIdeals$Tape", "sort", "I", false)
  | _ => ("TermIdeals$Tape", "size", "I", false)
def tyX6 : Nat → FieldType := fun k => match k with
  | 0 => .array .long
  | 1 => .int
  | _ => .int
theorem nmX6 : ∀ a, a < 3 → ∀ b, b < 3 → a ≠ b → (TX6 a).2.1 ≠ (TX6 b).2.1 := by decide +kernel
theorem tyX6_ok : ∀ k, k < 3 → parseFieldDescriptor (TX6 k).2.2.1 = some (tyX6 k) := by decide +kernel
abbrev cX6_init : ByteArray := prog_8_method_1_code
def yX6_init : MethodName := ⟨RX6, "<init>", "()V"⟩
abbrev cX6_become : ByteArray := prog_8_method_2_code
def yX6_become : MethodName := ⟨RX6, "become", "(II)V"⟩
abbrev cX6_isNothing : ByteArray := prog_8_method_3_code
def yX6_isNothing : MethodName := ⟨RX6, "isNothing", "()Z"⟩
abbrev cX6_sort : ByteArray := prog_8_method_4_code
def yX6_sort : MethodName := ⟨RX6, "sort", "()I"⟩
abbrev cX6_hasRange : ByteArray := prog_8_method_5_code
def yX6_hasRange : MethodName := ⟨RX6, "hasRange", "(JJ)Z"⟩
abbrev cX6_get : ByteArray := prog_8_method_6_code
def yX6_get : MethodName := ⟨RX6, "get", "(I)J"⟩
abbrev cX6_set : ByteArray := prog_8_method_7_code
def yX6_set : MethodName := ⟨RX6, "set", "(IJ)V"⟩
abbrev cX6_narrow : ByteArray := prog_8_method_8_code
def yX6_narrow : MethodName := ⟨RX6, "narrow", "(J)J"⟩
abbrev cX6_take : ByteArray := prog_8_method_9_code
def yX6_take : MethodName := ⟨RX6, "take", "(ILTermIdeals$Tape;II)V"⟩
def RX7 : String := "TermIdeals$Text"
def TX7 : u_T := fun k => match k with
  | 0 => ("TermIdeals$Text", "signs", "[B", true)
  | _ => ("TermIdeals$Text", "size", "I", false)
def tyX7 : Nat → FieldType := fun k => match k with
  | 0 => .array .byte
  | _ => .int
theorem nmX7 : ∀ a, a < 2 → ∀ b, b < 2 → a ≠ b → (TX7 a).2.1 ≠ (TX7 b).2.1 := by decide +kernel
theorem tyX7_ok : ∀ k, k < 2 → parseFieldDescriptor (TX7 k).2.2.1 = some (tyX7 k) := by decide +kernel
abbrev cX7_init : ByteArray := prog_9_method_1_code
def yX7_init : MethodName := ⟨RX7, "<init>", "()V"⟩
abbrev cX7_size : ByteArray := prog_9_method_2_code
def yX7_size : MethodName := ⟨RX7, "size", "()I"⟩
abbrev cX7_isFull : ByteArray := prog_9_method_3_code
def yX7_isFull : MethodName := ⟨RX7, "isFull", "()Z"⟩
abbrev cX7_add : ByteArray := prog_9_method_4_code
def yX7_add : MethodName := ⟨RX7, "add", "(I)V"⟩
abbrev cX7_empty : ByteArray := prog_9_method_5_code
def yX7_empty : MethodName := ⟨RX7, "empty", "()V"⟩
abbrev cX7_signAt : ByteArray := prog_9_method_6_code
def yX7_signAt : MethodName := ⟨RX7, "signAt", "(I)I"⟩
abbrev cX7_digitAt : ByteArray := prog_9_method_7_code
def yX7_digitAt : MethodName := ⟨RX7, "digitAt", "(I)I"⟩
abbrev cX7_isDigit : ByteArray := prog_9_method_8_code
def yX7_isDigit : MethodName := ⟨RX7, "isDigit", "(I)Z"⟩
abbrev cX7_clauseLength : ByteArray := prog_9_method_9_code
def yX7_clauseLength : MethodName := ⟨RX7, "clauseLength", "(I)I"⟩
abbrev cX7_faultPlace : ByteArray := prog_9_method_10_code
def yX7_faultPlace : MethodName := ⟨RX7, "faultPlace", "()I"⟩
def RX8 : String := "TermIdeals$Told"
def TX8 : u_T := fun k => match k with
  | 0 => ("TermIdeals$Told", "zero", "LTermIdeals$Ideal;", true)
  | 1 => ("TermIdeals$Told", "one", "LTermIdeals$Ideal;", true)
  | 2 => ("TermIdeals$Told", "seen", "LTermIdeals$Rows;", true)
  | 3 => ("TermIdeals$Told", "events", "LTermIdeals$Rows;", true)
  | _ => ("TermIdeals$Told", "book", "LTermIdeals$Rows;", true)
def tyX8 : Nat → FieldType := fun k => match k with
  | 0 => .object "TermIdeals$Ideal"
  | 1 => .object "TermIdeals$Ideal"
  | 2 => .object "TermIdeals$Rows"
  | 3 => .object "TermIdeals$Rows"
  | _ => .object "TermIdeals$Rows"
theorem nmX8 : ∀ a, a < 5 → ∀ b, b < 5 → a ≠ b → (TX8 a).2.1 ≠ (TX8 b).2.1 := by decide +kernel
theorem tyX8_ok : ∀ k, k < 5 → parseFieldDescriptor (TX8 k).2.2.1 = some (tyX8 k) := by decide +kernel
abbrev cX8_init : ByteArray := prog_10_method_1_code
def yX8_init : MethodName := ⟨RX8, "<init>", "()V"⟩
abbrev cX8_ideal : ByteArray := prog_10_method_2_code
def yX8_ideal : MethodName := ⟨RX8, "ideal", "(I)LTermIdeals$Ideal;"⟩
abbrev cX8_countGenerators : ByteArray := prog_10_method_3_code
def yX8_countGenerators : MethodName := ⟨RX8, "countGenerators", "()I"⟩
abbrev cX8_copy : ByteArray := prog_10_method_4_code
def yX8_copy : MethodName := ⟨RX8, "copy", "(LTermIdeals$Told;)V"⟩
def RX9 : String := "TermIdeals"
def TX9 : u_T := fun k => match k with
  | 0 => ("TermIdeals", "now", "LTermIdeals$Told;", true)
  | 1 => ("TermIdeals", "image", "LTermIdeals$Told;", true)
  | 2 => ("TermIdeals", "imageTaken", "Z", false)
  | 3 => ("TermIdeals", "deeds", "LTermIdeals$Deeds;", true)
  | 4 => ("TermIdeals", "text", "LTermIdeals$Text;", true)
  | 5 => ("TermIdeals", "tapes", "[LTermIdeals$Tape;", true)
  | 6 => ("TermIdeals", "trial", "LTermIdeals$Ideal;", true)
  | 7 => ("TermIdeals", "hull", "LTermIdeals$Hull;", true)
  | 8 => ("TermIdeals", "jumpRow", "LTermIdeals$JumpRow;", true)
  | 9 => ("TermIdeals", "left", "LTermIdeals$Heights;", true)
  | _ => ("TermIdeals", "right", "LTermIdeals$Heights;", true)
def tyX9 : Nat → FieldType := fun k => match k with
  | 0 => .object "TermIdeals$Told"
  | 1 => .object "TermIdeals$Told"
  | 2 => .boolean
  | 3 => .object "TermIdeals$Deeds"
  | 4 => .object "TermIdeals$Text"
  | 5 => .array (.object "TermIdeals$Tape")
  | 6 => .object "TermIdeals$Ideal"
  | 7 => .object "TermIdeals$Hull"
  | 8 => .object "TermIdeals$JumpRow"
  | 9 => .object "TermIdeals$Heights"
  | _ => .object "TermIdeals$Heights"
theorem nmX9 : ∀ a, a < 11 → ∀ b, b < 11 → a ≠ b → (TX9 a).2.1 ≠ (TX9 b).2.1 := by decide +kernel
theorem tyX9_ok : ∀ k, k < 11 → parseFieldDescriptor (TX9 k).2.2.1 = some (tyX9 k) := by decide +kernel
abbrev cX9_init : ByteArray := prog_1_method_1_code
def yX9_init : MethodName := ⟨RX9, "<init>", "()V"⟩
abbrev cX9_generate : ByteArray := prog_1_method_2_code
def yX9_generate : MethodName := ⟨RX9, "generate", "(III)I"⟩
abbrev cX9_drop : ByteArray := prog_1_method_3_code
def yX9_drop : MethodName := ⟨RX9, "drop", "(II)I"⟩
abbrev cX9_clear : ByteArray := prog_1_method_4_code
def yX9_clear : MethodName := ⟨RX9, "clear", "(I)I"⟩
abbrev cX9_merge : ByteArray := prog_1_method_5_code
def yX9_merge : MethodName := ⟨RX9, "merge", "(I)I"⟩
abbrev cX9_close : ByteArray := prog_1_method_6_code
def yX9_close : MethodName := ⟨RX9, "close", "(I)I"⟩
abbrev cX9_back : ByteArray := prog_1_method_7_code
def yX9_back : MethodName := ⟨RX9, "back", "()I"⟩
abbrev cX9_feed : ByteArray := prog_1_method_8_code
def yX9_feed : MethodName := ⟨RX9, "feed", "(I)I"⟩
abbrev cX9_read : ByteArray := prog_1_method_9_code
def yX9_read : MethodName := ⟨RX9, "read", "()I"⟩
abbrev cX9_doClauses : ByteArray := prog_1_method_10_code
def yX9_doClauses : MethodName := ⟨RX9, "doClauses", "()I"⟩
abbrev cX9_doClause : ByteArray := prog_1_method_11_code
def yX9_doClause : MethodName := ⟨RX9, "doClause", "(I)I"⟩
abbrev cX9_of : ByteArray := prog_1_method_12_code
def yX9_of : MethodName := ⟨RX9, "of", "(III)I"⟩
abbrev cX9_told : ByteArray := prog_1_method_13_code
def yX9_told : MethodName := ⟨RX9, "told", "(II)I"⟩
abbrev cX9_in : ByteArray := prog_1_method_14_code
def yX9_in : MethodName := ⟨RX9, "in", "(IIII)I"⟩
abbrev cX9_face : ByteArray := prog_1_method_15_code
def yX9_face : MethodName := ⟨RX9, "face", "(III)I"⟩
abbrev cX9_held : ByteArray := prog_1_method_16_code
def yX9_held : MethodName := ⟨RX9, "held", "(IIIII)I"⟩
abbrev cX9_reason : ByteArray := prog_1_method_17_code
def yX9_reason : MethodName := ⟨RX9, "reason", "(IIIIII)I"⟩
abbrev cX9_jump : ByteArray := prog_1_method_18_code
def yX9_jump : MethodName := ⟨RX9, "jump", "(IIII)J"⟩
abbrev cX9_jumps : ByteArray := prog_1_method_19_code
def yX9_jumps : MethodName := ⟨RX9, "jumps", "(III)J"⟩
abbrev cX9_lacks : ByteArray := prog_1_method_20_code
def yX9_lacks : MethodName := ⟨RX9, "lacks", "(III)I"⟩
abbrev cX9_height : ByteArray := prog_1_method_21_code
def yX9_height : MethodName := ⟨RX9, "height", "(III)I"⟩
abbrev cX9_reduces : ByteArray := prog_1_method_22_code
def yX9_reduces : MethodName := ⟨RX9, "reduces", "(I)I"⟩
abbrev cX9_see : ByteArray := prog_1_method_23_code
def yX9_see : MethodName := ⟨RX9, "see", "(III)I"⟩
abbrev cX9_fits : ByteArray := prog_1_method_24_code
def yX9_fits : MethodName := ⟨RX9, "fits", "(IIII)I"⟩
abbrev cX9_odds : ByteArray := prog_1_method_25_code
def yX9_odds : MethodName := ⟨RX9, "odds", "(IIII)J"⟩
abbrev cX9_mean : ByteArray := prog_1_method_26_code
def yX9_mean : MethodName := ⟨RX9, "mean", "(II)J"⟩
abbrev cX9_event : ByteArray := prog_1_method_27_code
def yX9_event : MethodName := ⟨RX9, "event", "(II)I"⟩
abbrev cX9_after : ByteArray := prog_1_method_28_code
def yX9_after : MethodName := ⟨RX9, "after", "(I)I"⟩
abbrev cX9_book : ByteArray := prog_1_method_29_code
def yX9_book : MethodName := ⟨RX9, "book", "(II)I"⟩
abbrev cX9_looked : ByteArray := prog_1_method_30_code
def yX9_looked : MethodName := ⟨RX9, "looked", "()I"⟩
abbrev cX9_judge : ByteArray := prog_1_method_31_code
def yX9_judge : MethodName := ⟨RX9, "judge", "(III)I"⟩
abbrev cX9_image : ByteArray := prog_1_method_32_code
def yX9_image : MethodName := ⟨RX9, "image", "()I"⟩
abbrev cX9_undo : ByteArray := prog_1_method_33_code
def yX9_undo : MethodName := ⟨RX9, "undo", "()I"⟩
abbrev cX9_count : ByteArray := prog_1_method_34_code
def yX9_count : MethodName := ⟨RX9, "count", "(I)I"⟩
abbrev cX9_tape : ByteArray := prog_1_method_35_code
def yX9_tape : MethodName := ⟨RX9, "tape", "(III)I"⟩
abbrev cX9_item : ByteArray := prog_1_method_36_code
def yX9_item : MethodName := ⟨RX9, "item", "(IIJ)I"⟩
abbrev cX9_peek : ByteArray := prog_1_method_37_code
def yX9_peek : MethodName := ⟨RX9, "peek", "(II)J"⟩
abbrev cX9_shift : ByteArray := prog_1_method_38_code
def yX9_shift : MethodName := ⟨RX9, "shift", "(IIIII)I"⟩
abbrev cX9_noIdeal : ByteArray := prog_1_method_39_code
def yX9_noIdeal : MethodName := ⟨RX9, "noIdeal", "(I)Z"⟩
abbrev cX9_noGenerator : ByteArray := prog_1_method_40_code
def yX9_noGenerator : MethodName := ⟨RX9, "noGenerator", "(II)Z"⟩
abbrev cX9_badTerm : ByteArray := prog_1_method_41_code
def yX9_badTerm : MethodName := ⟨RX9, "badTerm", "(II)Z"⟩
abbrev cX9_badFraction : ByteArray := prog_1_method_42_code
def yX9_badFraction : MethodName := ⟨RX9, "badFraction", "(II)Z"⟩
abbrev cX9_badPart : ByteArray := prog_1_method_43_code
def yX9_badPart : MethodName := ⟨RX9, "badPart", "(I)Z"⟩
abbrev cX9_noHeightCode : ByteArray := prog_1_method_44_code
def yX9_noHeightCode : MethodName := ⟨RX9, "noHeightCode", "(I)Z"⟩
abbrev cX9_badEventNumber : ByteArray := prog_1_method_45_code
def yX9_badEventNumber : MethodName := ⟨RX9, "badEventNumber", "(II)Z"⟩
abbrev cX9_noTape : ByteArray := prog_1_method_46_code
def yX9_noTape : MethodName := ⟨RX9, "noTape", "(I)Z"⟩
abbrev cX9_countJumps : ByteArray := prog_1_method_47_code
def yX9_countJumps : MethodName := ⟨RX9, "countJumps", "(LTermIdeals$Ideal;)I"⟩
abbrev cX9_countBarred : ByteArray := prog_1_method_48_code
def yX9_countBarred : MethodName := ⟨RX9, "countBarred", "(LTermIdeals$Ideal;II)I"⟩
abbrev cX9_closedness : ByteArray := prog_1_method_49_code
def yX9_closedness : MethodName := ⟨RX9, "closedness", "(LTermIdeals$Ideal;)I"⟩
abbrev cX9_reduction : ByteArray := prog_1_method_50_code
def yX9_reduction : MethodName := ⟨RX9, "reduction", "()I"⟩
abbrev cX9_met : ByteArray := prog_1_method_51_code
def yX9_met : MethodName := ⟨RX9, "met", "()I"⟩
abbrev cX9_fitsWith : ByteArray := prog_1_method_52_code
def yX9_fitsWith : MethodName := ⟨RX9, "fitsWith", "(IIII)Z"⟩
abbrev cX9_isAsSeen : ByteArray := prog_1_method_53_code
def yX9_isAsSeen : MethodName := ⟨RX9, "isAsSeen", "(LTermIdeals$Ideal;)Z"⟩
abbrev cX9_happen : ByteArray := prog_1_method_54_code
def yX9_happen : MethodName := ⟨RX9, "happen", "(II)V"⟩
abbrev cX9_lowerOf : ByteArray := prog_1_method_55_code
def yX9_lowerOf : MethodName := ⟨RX9, "lowerOf", "(II)I"⟩
abbrev cX9_lowest : ByteArray := prog_1_method_56_code
def yX9_lowest : MethodName := ⟨RX9, "lowest", "(III)J"⟩
abbrev cX9_commonDivisor : ByteArray := prog_1_method_57_code
def yX9_commonDivisor : MethodName := ⟨RX9, "commonDivisor", "(II)I"⟩
def RX10 : String := "TermIdealsModel"
def TX10 : u_T := fun k => match k with
  | 0 => ("TermIdealsModel", "sizes", "[I", true)
  | 1 => ("TermIdealsModel", "as", "[I", true)
  | 2 => ("TermIdealsModel", "bs", "[I", true)
  | 3 => ("TermIdealsModel", "deeds", "I", false)
  | 4 => ("TermIdealsModel", "deedOf", "[I", true)
  | 5 => ("TermIdealsModel", "deedSizes", "[I", true)
  | 6 => ("TermIdealsModel", "deedAs", "[I", true)
  | 7 => ("TermIdealsModel", "deedBs", "[I", true)
  | 8 => ("TermIdealsModel", "text", "[I", true)
  | 9 => ("TermIdealsModel", "size", "I", false)
  | 10 => ("TermIdealsModel", "at", "I", false)
  | 11 => ("TermIdealsModel", "told", "[I", true)
  | 12 => ("TermIdealsModel", "faces", "I", false)
  | 13 => ("TermIdealsModel", "ss", "[I", true)
  | 14 => ("TermIdealsModel", "ts", "[I", true)
  | 15 => ("TermIdealsModel", "levels", "[I", true)
  | 16 => ("TermIdealsModel", "jumpMany", "I", false)
  | 17 => ("TermIdealsModel", "tops", "[I", true)
  | 18 => ("TermIdealsModel", "unders", "[I", true)
  | 19 => ("TermIdealsModel", "heights", "[I", true)
  | 20 => ("TermIdealsModel", "next", "[I", true)
  | 21 => ("TermIdealsModel", "kept", "[I", true)
  | 22 => ("TermIdealsModel", "seen", "I", false)
  | 23 => ("TermIdealsModel", "seenAt", "[I", true)
  | 24 => ("TermIdealsModel", "seenTop", "[I", true)
  | 25 => ("TermIdealsModel", "seenUnder", "[I", true)
  | 26 => ("TermIdealsModel", "events", "I", false)
  | 27 => ("TermIdealsModel", "eventWhats", "[I", true)
  | 28 => ("TermIdealsModel", "eventNs", "[I", true)
  | 29 => ("TermIdealsModel", "books", "I", false)
  | 30 => ("TermIdealsModel", "bookTerms", "[I", true)
  | 31 => ("TermIdealsModel", "bookIs", "[I", true)
  | 32 => ("TermIdealsModel", "sorts", "[I", true)
  | 33 => ("TermIdealsModel", "lengths", "[I", true)
  | 34 => ("TermIdealsModel", "items", "[J", true)
  | 35 => ("TermIdealsModel", "moved", "[J", true)
  | 36 => ("TermIdealsModel", "isKept", "Z", false)
  | 37 => ("TermIdealsModel", "keptSizes", "[I", true)
  | 38 => ("TermIdealsModel", "keptAs", "[I", true)
  | 39 => ("TermIdealsModel", "keptBs", "[I", true)
  | 40 => ("TermIdealsModel", "keptSeen", "I", false)
  | 41 => ("TermIdealsModel", "keptSeenRows", "[I", true)
  | 42 => ("TermIdealsModel", "keptEvents", "I", false)
  | 43 => ("TermIdealsModel", "keptEventRows", "[I", true)
  | 44 => ("TermIdealsModel", "keptBooks", "I", false)
  | _ => ("TermIdealsModel", "keptBookRows", "[I", true)
def tyX10 : Nat → FieldType := fun k => match k with
  | 0 => .array .int
  | 1 => .array .int
  | 2 => .array .int
  | 3 => .int
  | 4 => .array .int
  | 5 => .array .int
  | 6 => .array .int
  | 7 => .array .int
  | 8 => .array .int
  | 9 => .int
  | 10 => .int
  | 11 => .array .int
  | 12 => .int
  | 13 => .array .int
  | 14 => .array .int
  | 15 => .array .int
  | 16 => .int
  | 17 => .array .int
  | 18 => .array .int
  | 19 => .array .int
  | 20 => .array .int
  | 21 => .array .int
  | 22 => .int
  | 23 => .array .int
  | 24 => .array .int
  | 25 => .array .int
  | 26 => .int
  | 27 => .array .int
  | 28 => .array .int
  | 29 => .int
  | 30 => .array .int
  | 31 => .array .int
  | 32 => .array .int
  | 33 => .array .int
  | 34 => .array .long
  | 35 => .array .long
  | 36 => .boolean
  | 37 => .array .int
  | 38 => .array .int
  | 39 => .array .int
  | 40 => .int
  | 41 => .array .int
  | 42 => .int
  | 43 => .array .int
  | 44 => .int
  | _ => .array .int
theorem nmX10 : ∀ a, a < 46 → ∀ b, b < 46 → a ≠ b → (TX10 a).2.1 ≠ (TX10 b).2.1 := by decide +kernel
theorem tyX10_ok : ∀ k, k < 46 → parseFieldDescriptor (TX10 k).2.2.1 = some (tyX10 k) := by decide +kernel
abbrev cX10_init : ByteArray := prog_12_method_1_code
def yX10_init : MethodName := ⟨RX10, "<init>", "()V"⟩
abbrev cX10_isFrom : ByteArray := prog_12_method_2_code
def yX10_isFrom : MethodName := ⟨RX10, "isFrom", "(JJJ)Z"⟩
abbrev cX10_isIdeal : ByteArray := prog_12_method_3_code
def yX10_isIdeal : MethodName := ⟨RX10, "isIdeal", "(I)Z"⟩
abbrev cX10_isPower : ByteArray := prog_12_method_4_code
def yX10_isPower : MethodName := ⟨RX10, "isPower", "(I)Z"⟩
abbrev cX10_divisor : ByteArray := prog_12_method_5_code
def yX10_divisor : MethodName := ⟨RX10, "divisor", "(JJ)J"⟩
abbrev cX10_part : ByteArray := prog_12_method_6_code
def yX10_part : MethodName := ⟨RX10, "part", "(JJI)J"⟩
abbrev cX10_a : ByteArray := prog_12_method_7_code
def yX10_a : MethodName := ⟨RX10, "a", "(II)I"⟩
abbrev cX10_b : ByteArray := prog_12_method_8_code
def yX10_b : MethodName := ⟨RX10, "b", "(II)I"⟩
abbrev cX10_which : ByteArray := prog_12_method_9_code
def yX10_which : MethodName := ⟨RX10, "which", "(III)I"⟩
abbrev cX10_comes : ByteArray := prog_12_method_10_code
def yX10_comes : MethodName := ⟨RX10, "comes", "(III)V"⟩
abbrev cX10_goes : ByteArray := prog_12_method_11_code
def yX10_goes : MethodName := ⟨RX10, "goes", "(II)V"⟩
abbrev cX10_likens : ByteArray := prog_12_method_12_code
def yX10_likens : MethodName := ⟨RX10, "likens", "(II)V"⟩
abbrev cX10_deed : ByteArray := prog_12_method_13_code
def yX10_deed : MethodName := ⟨RX10, "deed", "(I)V"⟩
abbrev cX10_generate : ByteArray := prog_12_method_14_code
def yX10_generate : MethodName := ⟨RX10, "generate", "(III)I"⟩
abbrev cX10_isGenerator : ByteArray := prog_12_method_15_code
def yX10_isGenerator : MethodName := ⟨RX10, "isGenerator", "(II)Z"⟩
abbrev cX10_drop : ByteArray := prog_12_method_16_code
def yX10_drop : MethodName := ⟨RX10, "drop", "(II)I"⟩
abbrev cX10_clear : ByteArray := prog_12_method_17_code
def yX10_clear : MethodName := ⟨RX10, "clear", "(I)I"⟩
abbrev cX10_merge : ByteArray := prog_12_method_18_code
def yX10_merge : MethodName := ⟨RX10, "merge", "(I)I"⟩
abbrev cX10_isCorner : ByteArray := prog_12_method_19_code
def yX10_isCorner : MethodName := ⟨RX10, "isCorner", "(II)Z"⟩
abbrev cX10_close : ByteArray := prog_12_method_20_code
def yX10_close : MethodName := ⟨RX10, "close", "(I)I"⟩
abbrev cX10_back : ByteArray := prog_12_method_21_code
def yX10_back : MethodName := ⟨RX10, "back", "()I"⟩
abbrev cX10_feed : ByteArray := prog_12_method_22_code
def yX10_feed : MethodName := ⟨RX10, "feed", "(I)I"⟩
abbrev cX10_digitsOf : ByteArray := prog_12_method_23_code
def yX10_digitsOf : MethodName := ⟨RX10, "digitsOf", "(I)I"⟩
abbrev cX10_clause : ByteArray := prog_12_method_24_code
def yX10_clause : MethodName := ⟨RX10, "clause", "()I"⟩
abbrev cX10_isDone : ByteArray := prog_12_method_25_code
def yX10_isDone : MethodName := ⟨RX10, "isDone", "(I)Z"⟩
abbrev cX10_clauses : ByteArray := prog_12_method_26_code
def yX10_clauses : MethodName := ⟨RX10, "clauses", "()I"⟩
abbrev cX10_read : ByteArray := prog_12_method_27_code
def yX10_read : MethodName := ⟨RX10, "read", "()I"⟩
abbrev cX10_levelOf : ByteArray := prog_12_method_28_code
def yX10_levelOf : MethodName := ⟨RX10, "levelOf", "(III)I"⟩
abbrev cX10_metBy : ByteArray := prog_12_method_29_code
def yX10_metBy : MethodName := ⟨RX10, "metBy", "(IIII)I"⟩
abbrev cX10_comesFace : ByteArray := prog_12_method_30_code
def yX10_comesFace : MethodName := ⟨RX10, "comesFace", "(III)V"⟩
abbrev cX10_tellsFaces : ByteArray := prog_12_method_31_code
def yX10_tellsFaces : MethodName := ⟨RX10, "tellsFaces", "(I)V"⟩
abbrev cX10_isInHull : ByteArray := prog_12_method_32_code
def yX10_isInHull : MethodName := ⟨RX10, "isInHull", "(II)Z"⟩
abbrev cX10_isWithin : ByteArray := prog_12_method_33_code
def yX10_isWithin : MethodName := ⟨RX10, "isWithin", "(III)Z"⟩
abbrev cX10_isClosed : ByteArray := prog_12_method_34_code
def yX10_isClosed : MethodName := ⟨RX10, "isClosed", "(I)Z"⟩
abbrev cX10_isLeast : ByteArray := prog_12_method_35_code
def yX10_isLeast : MethodName := ⟨RX10, "isLeast", "(II)Z"⟩
abbrev cX10_leastMany : ByteArray := prog_12_method_36_code
def yX10_leastMany : MethodName := ⟨RX10, "leastMany", "(I)I"⟩
abbrev cX10_of : ByteArray := prog_12_method_37_code
def yX10_of : MethodName := ⟨RX10, "of", "(III)I"⟩
abbrev cX10_told : ByteArray := prog_12_method_38_code
def yX10_told : MethodName := ⟨RX10, "told", "(II)I"⟩
abbrev cX10_asked : ByteArray := prog_12_method_39_code
def yX10_asked : MethodName := ⟨RX10, "asked", "(II)I"⟩
abbrev cX10_in : ByteArray := prog_12_method_40_code
def yX10_in : MethodName := ⟨RX10, "in", "(IIII)I"⟩
abbrev cX10_face : ByteArray := prog_12_method_41_code
def yX10_face : MethodName := ⟨RX10, "face", "(III)I"⟩
abbrev cX10_heavy : ByteArray := prog_12_method_42_code
def yX10_heavy : MethodName := ⟨RX10, "heavy", "(III)I"⟩
abbrev cX10_barring : ByteArray := prog_12_method_43_code
def yX10_barring : MethodName := ⟨RX10, "barring", "(IIII)I"⟩
abbrev cX10_isFraction : ByteArray := prog_12_method_44_code
def yX10_isFraction : MethodName := ⟨RX10, "isFraction", "(II)Z"⟩
abbrev cX10_held : ByteArray := prog_12_method_45_code
def yX10_held : MethodName := ⟨RX10, "held", "(IIIII)I"⟩
abbrev cX10_reason : ByteArray := prog_12_method_46_code
def yX10_reason : MethodName := ⟨RX10, "reason", "(IIIIII)I"⟩
abbrev cX10_jumpFace : ByteArray := prog_12_method_47_code
def yX10_jumpFace : MethodName := ⟨RX10, "jumpFace", "(II)I"⟩
abbrev cX10_jump : ByteArray := prog_12_method_48_code
def yX10_jump : MethodName := ⟨RX10, "jump", "(IIII)J"⟩
abbrev cX10_comesJump : ByteArray := prog_12_method_49_code
def yX10_comesJump : MethodName := ⟨RX10, "comesJump", "(II)V"⟩
abbrev cX10_tellsJumps : ByteArray := prog_12_method_50_code
def yX10_tellsJumps : MethodName := ⟨RX10, "tellsJumps", "()V"⟩
abbrev cX10_jumps : ByteArray := prog_12_method_51_code
def yX10_jumps : MethodName := ⟨RX10, "jumps", "(III)J"⟩
abbrev cX10_lacking : ByteArray := prog_12_method_52_code
def yX10_lacking : MethodName := ⟨RX10, "lacking", "(III)I"⟩
abbrev cX10_lacks : ByteArray := prog_12_method_53_code
def yX10_lacks : MethodName := ⟨RX10, "lacks", "(III)I"⟩
abbrev cX10_begins : ByteArray := prog_12_method_54_code
def yX10_begins : MethodName := ⟨RX10, "begins", "()V"⟩
abbrev cX10_times : ByteArray := prog_12_method_55_code
def yX10_times : MethodName := ⟨RX10, "times", "(I)V"⟩
abbrev cX10_settles : ByteArray := prog_12_method_56_code
def yX10_settles : MethodName := ⟨RX10, "settles", "()V"⟩
abbrev cX10_powers : ByteArray := prog_12_method_57_code
def yX10_powers : MethodName := ⟨RX10, "powers", "(II)V"⟩
abbrev cX10_heightAt : ByteArray := prog_12_method_58_code
def yX10_heightAt : MethodName := ⟨RX10, "heightAt", "(I)I"⟩
abbrev cX10_heightOf : ByteArray := prog_12_method_59_code
def yX10_heightOf : MethodName := ⟨RX10, "heightOf", "(II)I"⟩
abbrev cX10_sumHeight : ByteArray := prog_12_method_60_code
def yX10_sumHeight : MethodName := ⟨RX10, "sumHeight", "(I)I"⟩
abbrev cX10_height : ByteArray := prog_12_method_61_code
def yX10_height : MethodName := ⟨RX10, "height", "(III)I"⟩
abbrev cX10_isReduction : ByteArray := prog_12_method_62_code
def yX10_isReduction : MethodName := ⟨RX10, "isReduction", "()Z"⟩
abbrev cX10_isMetBy : ByteArray := prog_12_method_63_code
def yX10_isMetBy : MethodName := ⟨RX10, "isMetBy", "(I)Z"⟩
abbrev cX10_reduces : ByteArray := prog_12_method_64_code
def yX10_reduces : MethodName := ⟨RX10, "reduces", "(I)I"⟩
abbrev cX10_see : ByteArray := prog_12_method_65_code
def yX10_see : MethodName := ⟨RX10, "see", "(III)I"⟩
abbrev cX10_isSeen : ByteArray := prog_12_method_66_code
def yX10_isSeen : MethodName := ⟨RX10, "isSeen", "()Z"⟩
abbrev cX10_fits : ByteArray := prog_12_method_67_code
def yX10_fits : MethodName := ⟨RX10, "fits", "(IIII)I"⟩
abbrev cX10_odds : ByteArray := prog_12_method_68_code
def yX10_odds : MethodName := ⟨RX10, "odds", "(IIII)J"⟩
abbrev cX10_mean : ByteArray := prog_12_method_69_code
def yX10_mean : MethodName := ⟨RX10, "mean", "(II)J"⟩
abbrev cX10_event : ByteArray := prog_12_method_70_code
def yX10_event : MethodName := ⟨RX10, "event", "(II)I"⟩
abbrev cX10_lessens : ByteArray := prog_12_method_71_code
def yX10_lessens : MethodName := ⟨RX10, "lessens", "(I)V"⟩
abbrev cX10_happens : ByteArray := prog_12_method_72_code
def yX10_happens : MethodName := ⟨RX10, "happens", "(II)V"⟩
abbrev cX10_after : ByteArray := prog_12_method_73_code
def yX10_after : MethodName := ⟨RX10, "after", "(I)I"⟩
abbrev cX10_book : ByteArray := prog_12_method_74_code
def yX10_book : MethodName := ⟨RX10, "book", "(II)I"⟩
abbrev cX10_looked : ByteArray := prog_12_method_75_code
def yX10_looked : MethodName := ⟨RX10, "looked", "()I"⟩
abbrev cX10_isTape : ByteArray := prog_12_method_76_code
def yX10_isTape : MethodName := ⟨RX10, "isTape", "(I)Z"⟩
abbrev cX10_judge : ByteArray := prog_12_method_77_code
def yX10_judge : MethodName := ⟨RX10, "judge", "(III)I"⟩
abbrev cX10_tape : ByteArray := prog_12_method_78_code
def yX10_tape : MethodName := ⟨RX10, "tape", "(III)I"⟩
abbrev cX10_asSort : ByteArray := prog_12_method_79_code
def yX10_asSort : MethodName := ⟨RX10, "asSort", "(IJ)J"⟩
abbrev cX10_item : ByteArray := prog_12_method_80_code
def yX10_item : MethodName := ⟨RX10, "item", "(IIJ)I"⟩
abbrev cX10_peek : ByteArray := prog_12_method_81_code
def yX10_peek : MethodName := ⟨RX10, "peek", "(II)J"⟩
abbrev cX10_shift : ByteArray := prog_12_method_82_code
def yX10_shift : MethodName := ⟨RX10, "shift", "(IIIII)I"⟩
abbrev cX10_image : ByteArray := prog_12_method_83_code
def yX10_image : MethodName := ⟨RX10, "image", "()I"⟩
abbrev cX10_undo : ByteArray := prog_12_method_84_code
def yX10_undo : MethodName := ⟨RX10, "undo", "()I"⟩
abbrev cX10_count : ByteArray := prog_12_method_85_code
def yX10_count : MethodName := ⟨RX10, "count", "(I)I"⟩
def RL : String := "TermIdealsLaw"
abbrev cL_law : ByteArray := code
def yL_law : MethodName := ⟨RL, "law", "([I)Z"⟩
abbrev vwCl : List vw_C := [(RX0, TX0, 4), (RX1, TX1, 1), (RX2, TX2, 4), (RX3, TX3, 3), (RX4, TX4, 3), (RX5, TX5, 5), (RX6, TX6, 3), (RX7, TX7, 2), (RX8, TX8, 5), (RX9, TX9, 11), (RX10, TX10, 46)]
end
section
theorem dX0_init_0 : decode cX0_init 0 = .ok (.aload_n 0, 1) := by decide +kernel
theorem dX0_init_1 : decode cX0_init 1 = .ok (.invokespecial 1, 3) := by decide +kernel
theorem dX0_init_4 : decode cX0_init 4 = .ok (.aload_n 0, 1) := by decide +kernel
theorem dX0_init_5 : decode cX0_init 5 = .ok (.bipush 10, 2) := by decide +kernel
theorem dX0_init_7 : decode cX0_init 7 = .ok (.anewarray 9, 3) := by decide +kernel
theorem dX0_init_10 : decode cX0_init 10 = .ok (.putfield 11, 3) := by decide +kernel
theorem dX0_init_13 : decode cX0_init 13 = .ok (.iconst 0, 1) := by decide +kernel
theorem dX0_init_14 : decode cX0_init 14 = .ok (.istore_n 1, 1) := by decide +kernel
theorem dX0_init_15 : decode cX0_init 15 = .ok (.iload_n 1, 1) := by decide +kernel
theorem dX0_init_16 : decode cX0_init 16 = .ok (.bipush 10, 2) := by decide +kernel
theorem dX0_init_18 : decode cX0_init 18 = .ok (.if_icmp .ge 22, 3) := by decide +kernel
theorem dX0_init_21 : decode cX0_init 21 = .ok (.aload_n 0, 1) := by decide +kernel
theorem dX0_init_22 : decode cX0_init 22 = .ok (.getfield 11, 3) := by decide +kernel
theorem dX0_init_25 : decode cX0_init 25 = .ok (.iload_n 1, 1) := by decide +kernel
theorem dX0_init_26 : decode cX0_init 26 = .ok (.new 9, 3) := by decide +kernel
theorem dX0_init_29 : decode cX0_init 29 = .ok (.dup, 1) := by decide +kernel
theorem dX0_init_30 : decode cX0_init 30 = .ok (.invokespecial 15, 3) := by decide +kernel
theorem dX0_init_33 : decode cX0_init 33 = .ok (.aastore, 1) := by decide +kernel
theorem dX0_init_34 : decode cX0_init 34 = .ok (.iinc 1 1, 3) := by decide +kernel
theorem dX0_init_37 : decode cX0_init 37 = .ok (.goto (-22), 3) := by decide +kernel
theorem dX0_init_40 : decode cX0_init 40 = .ok (.aload_n 0, 1) := by decide +kernel
theorem dX0_init_41 : decode cX0_init 41 = .ok (.bipush 10, 2) := by decide +kernel
theorem dX0_init_43 : decode cX0_init 43 = .ok (.newarray .int, 2) := by decide +kernel
theorem dX0_init_45 : decode cX0_init 45 = .ok (.putfield 16, 3) := by decide +kernel
theorem dX0_init_48 : decode cX0_init 48 = .ok (.aload_n 0, 1) := by decide +kernel
theorem dX0_init_49 : decode cX0_init 49 = .ok (.iconst 0, 1) := by decide +kernel
theorem dX0_init_50 : decode cX0_init 50 = .ok (.putfield 20, 3) := by decide +kernel
theorem dX0_init_53 : decode cX0_init 53 = .ok (.aload_n 0, 1) := by decide +kernel
theorem dX0_init_54 : decode cX0_init 54 = .ok (.iconst 0, 1) := by decide +kernel
theorem dX0_init_55 : decode cX0_init 55 = .ok (.putfield 24, 3) := by decide +kernel
theorem dX0_init_58 : decode cX0_init 58 = .ok (.return_, 1) := by decide +kernel
theorem dX0_size_0 : decode cX0_size 0 = .ok (.aload_n 0, 1) := by decide +kernel
theorem dX0_size_1 : decode cX0_size 1 = .ok (.getfield 24, 3) := by decide +kernel
theorem dX0_size_4 : decode cX0_size 4 = .ok (.ireturn, 1) := by decide +kernel
theorem dX0_keep_0 : decode cX0_keep 0 = .ok (.aload_n 0, 1) := by decide +kernel
theorem dX0_keep_1 : decode cX0_keep 1 = .ok (.getfield 11, 3) := by decide +kernel
theorem dX0_keep_4 : decode cX0_keep 4 = .ok (.aload_n 0, 1) := by decide +kernel
theorem dX0_keep_5 : decode cX0_keep 5 = .ok (.getfield 20, 3) := by decide +kernel
theorem dX0_keep_8 : decode cX0_keep 8 = .ok (.aaload, 1) := by decide +kernel
theorem dX0_keep_9 : decode cX0_keep 9 = .ok (.aload_n 2, 1) := by decide +kernel
theorem dX0_keep_10 : decode cX0_keep 10 = .ok (.invokevirtual 27, 3) := by decide +kernel
theorem dX0_keep_13 : decode cX0_keep 13 = .ok (.aload_n 0, 1) := by decide +kernel
theorem dX0_keep_14 : decode cX0_keep 14 = .ok (.getfield 16, 3) := by decide +kernel
theorem dX0_keep_17 : decode cX0_keep 17 = .ok (.aload_n 0, 1) := by decide +kernel
theorem dX0_keep_18 : decode cX0_keep 18 = .ok (.getfield 20, 3) := by decide +kernel
theorem dX0_keep_21 : decode cX0_keep 21 = .ok (.iload_n 1, 1) := by decide +kernel
theorem dX0_keep_22 : decode cX0_keep 22 = .ok (.iastore, 1) := by decide +kernel
theorem dX0_keep_23 : decode cX0_keep 23 = .ok (.aload_n 0, 1) := by decide +kernel
theorem dX0_keep_24 : decode cX0_keep 24 = .ok (.aload_n 0, 1) := by decide +kernel
theorem dX0_keep_25 : decode cX0_keep 25 = .ok (.getfield 20, 3) := by decide +kernel
theorem dX0_keep_28 : decode cX0_keep 28 = .ok (.iconst 1, 1) := by decide +kernel
theorem dX0_keep_29 : decode cX0_keep 29 = .ok (.iadd, 1) := by decide +kernel
theorem dX0_keep_30 : decode cX0_keep 30 = .ok (.bipush 10, 2) := by decide +kernel
theorem dX0_keep_32 : decode cX0_keep 32 = .ok (.if_icmp .ge 12, 3) := by decide +kernel
theorem dX0_keep_35 : decode cX0_keep 35 = .ok (.aload_n 0, 1) := by decide +kernel
theorem dX0_keep_36 : decode cX0_keep 36 = .ok (.getfield 20, 3) := by decide +kernel
theorem dX0_keep_39 : decode cX0_keep 39 = .ok (.iconst 1, 1) := by decide +kernel
theorem dX0_keep_40 : decode cX0_keep 40 = .ok (.iadd, 1) := by decide +kernel
theorem dX0_keep_41 : decode cX0_keep 41 = .ok (.goto 4, 3) := by decide +kernel
theorem dX0_keep_44 : decode cX0_keep 44 = .ok (.iconst 0, 1) := by decide +kernel
theorem dX0_keep_45 : decode cX0_keep 45 = .ok (.putfield 20, 3) := by decide +kernel
theorem dX0_keep_48 : decode cX0_keep 48 = .ok (.aload_n 0, 1) := by decide +kernel
theorem dX0_keep_49 : decode cX0_keep 49 = .ok (.aload_n 0, 1) := by decide +kernel
theorem dX0_keep_50 : decode cX0_keep 50 = .ok (.getfield 24, 3) := by decide +kernel
theorem dX0_keep_53 : decode cX0_keep 53 = .ok (.iconst 1, 1) := by decide +kernel
theorem dX0_keep_54 : decode cX0_keep 54 = .ok (.iadd, 1) := by decide +kernel
theorem dX0_keep_55 : decode cX0_keep 55 = .ok (.bipush 10, 2) := by decide +kernel
theorem dX0_keep_57 : decode cX0_keep 57 = .ok (.invokestatic 31, 3) := by decide +kernel
theorem dX0_keep_60 : decode cX0_keep 60 = .ok (.putfield 24, 3) := by decide +kernel
theorem dX0_keep_63 : decode cX0_keep 63 = .ok (.return_, 1) := by decide +kernel
theorem dX0_takeBack_0 : decode cX0_takeBack 0 = .ok (.aload_n 0, 1) := by decide +kernel
theorem dX0_takeBack_1 : decode cX0_takeBack 1 = .ok (.getfield 24, 3) := by decide +kernel
theorem dX0_takeBack_4 : decode cX0_takeBack 4 = .ok (.ifCond .ne 4, 3) := by decide +kernel
theorem dX0_takeBack_7 : decode cX0_takeBack 7 = .ok (.return_, 1) := by decide +kernel
theorem dX0_takeBack_8 : decode cX0_takeBack 8 = .ok (.aload_n 0, 1) := by decide +kernel
theorem dX0_takeBack_9 : decode cX0_takeBack 9 = .ok (.aload_n 0, 1) := by decide +kernel
theorem dX0_takeBack_10 : decode cX0_takeBack 10 = .ok (.getfield 20, 3) := by decide +kernel
theorem dX0_takeBack_13 : decode cX0_takeBack 13 = .ok (.ifCond .le 12, 3) := by decide +kernel
theorem dX0_takeBack_16 : decode cX0_takeBack 16 = .ok (.aload_n 0, 1) := by decide +kernel
theorem dX0_takeBack_17 : decode cX0_takeBack 17 = .ok (.getfield 20, 3) := by decide +kernel
theorem dX0_takeBack_20 : decode cX0_takeBack 20 = .ok (.iconst 1, 1) := by decide +kernel
theorem dX0_takeBack_21 : decode cX0_takeBack 21 = .ok (.isub, 1) := by decide +kernel
theorem dX0_takeBack_22 : decode cX0_takeBack 22 = .ok (.goto 5, 3) := by decide +kernel
theorem dX0_takeBack_25 : decode cX0_takeBack 25 = .ok (.bipush 9, 2) := by decide +kernel
theorem dX0_takeBack_27 : decode cX0_takeBack 27 = .ok (.putfield 20, 3) := by decide +kernel
theorem dX0_takeBack_30 : decode cX0_takeBack 30 = .ok (.aload_n 1, 1) := by decide +kernel
theorem dX0_takeBack_31 : decode cX0_takeBack 31 = .ok (.aload_n 0, 1) := by decide +kernel
theorem dX0_takeBack_32 : decode cX0_takeBack 32 = .ok (.getfield 16, 3) := by decide +kernel
theorem dX0_takeBack_35 : decode cX0_takeBack 35 = .ok (.aload_n 0, 1) := by decide +kernel
theorem dX0_takeBack_36 : decode cX0_takeBack 36 = .ok (.getfield 20, 3) := by decide +kernel
theorem dX0_takeBack_39 : decode cX0_takeBack 39 = .ok (.iaload, 1) := by decide +kernel
theorem dX0_takeBack_40 : decode cX0_takeBack 40 = .ok (.invokevirtual 37, 3) := by decide +kernel
theorem dX0_takeBack_43 : decode cX0_takeBack 43 = .ok (.aload_n 0, 1) := by decide +kernel
theorem dX0_takeBack_44 : decode cX0_takeBack 44 = .ok (.getfield 11, 3) := by decide +kernel
theorem dX0_takeBack_47 : decode cX0_takeBack 47 = .ok (.aload_n 0, 1) := by decide +kernel
theorem dX0_takeBack_48 : decode cX0_takeBack 48 = .ok (.getfield 20, 3) := by decide +kernel
theorem dX0_takeBack_51 : decode cX0_takeBack 51 = .ok (.aaload, 1) := by decide +kernel
theorem dX0_takeBack_52 : decode cX0_takeBack 52 = .ok (.invokevirtual 27, 3) := by decide +kernel
theorem dX0_takeBack_55 : decode cX0_takeBack 55 = .ok (.aload_n 0, 1) := by decide +kernel
theorem dX0_takeBack_56 : decode cX0_takeBack 56 = .ok (.dup, 1) := by decide +kernel
theorem dX0_takeBack_57 : decode cX0_takeBack 57 = .ok (.getfield 24, 3) := by decide +kernel
theorem dX0_takeBack_60 : decode cX0_takeBack 60 = .ok (.iconst 1, 1) := by decide +kernel
theorem dX0_takeBack_61 : decode cX0_takeBack 61 = .ok (.isub, 1) := by decide +kernel
theorem dX0_takeBack_62 : decode cX0_takeBack 62 = .ok (.putfield 24, 3) := by decide +kernel
theorem dX0_takeBack_65 : decode cX0_takeBack 65 = .ok (.return_, 1) := by decide +kernel
theorem dX0_forget_0 : decode cX0_forget 0 = .ok (.aload_n 0, 1) := by decide +kernel
theorem dX0_forget_1 : decode cX0_forget 1 = .ok (.iconst 0, 1) := by decide +kernel
theorem dX0_forget_2 : decode cX0_forget 2 = .ok (.putfield 24, 3) := by decide +kernel
theorem dX0_forget_5 : decode cX0_forget 5 = .ok (.return_, 1) := by decide +kernel
theorem dX1_init_0 : decode cX1_init 0 = .ok (.aload_n 0, 1) := by decide +kernel
theorem dX1_init_1 : decode cX1_init 1 = .ok (.invokespecial 3, 3) := by decide +kernel
theorem dX1_init_4 : decode cX1_init 4 = .ok (.aload_n 0, 1) := by decide +kernel
theorem dX1_init_5 : decode cX1_init 5 = .ok (.bipush 61, 2) := by decide +kernel
theorem dX1_init_7 : decode cX1_init 7 = .ok (.newarray .int, 2) := by decide +kernel
theorem dX1_init_9 : decode cX1_init 9 = .ok (.putfield 9, 3) := by decide +kernel
theorem dX1_init_12 : decode cX1_init 12 = .ok (.return_, 1) := by decide +kernel
theorem dX1_ofAllTerms_0 : decode cX1_ofAllTerms 0 = .ok (.iconst 0, 1) := by decide +kernel
theorem dX1_ofAllTerms_1 : decode cX1_ofAllTerms 1 = .ok (.istore_n 1, 1) := by decide +kernel
theorem dX1_ofAllTerms_2 : decode cX1_ofAllTerms 2 = .ok (.iload_n 1, 1) := by decide +kernel
theorem dX1_ofAllTerms_3 : decode cX1_ofAllTerms 3 = .ok (.bipush 60, 2) := by decide +kernel
theorem dX1_ofAllTerms_5 : decode cX1_ofAllTerms 5 = .ok (.if_icmp .gt 16, 3) := by decide +kernel
theorem dX1_ofAllTerms_8 : decode cX1_ofAllTerms 8 = .ok (.aload_n 0, 1) := by decide +kernel
theorem dX1_ofAllTerms_9 : decode cX1_ofAllTerms 9 = .ok (.getfield 9, 3) := by decide +kernel
theorem dX1_ofAllTerms_12 : decode cX1_ofAllTerms 12 = .ok (.iload_n 1, 1) := by decide +kernel
theorem dX1_ofAllTerms_13 : decode cX1_ofAllTerms 13 = .ok (.iconst 0, 1) := by decide +kernel
theorem dX1_ofAllTerms_14 : decode cX1_ofAllTerms 14 = .ok (.iastore, 1) := by decide +kernel
theorem dX1_ofAllTerms_15 : decode cX1_ofAllTerms 15 = .ok (.iinc 1 1, 3) := by decide +kernel
theorem dX1_ofAllTerms_18 : decode cX1_ofAllTerms 18 = .ok (.goto (-16), 3) := by decide +kernel
theorem dX1_ofAllTerms_21 : decode cX1_ofAllTerms 21 = .ok (.return_, 1) := by decide +kernel
theorem dX1_multiply_0 : decode cX1_multiply 0 = .ok (.bipush 60, 2) := by decide +kernel
theorem dX1_multiply_2 : decode cX1_multiply 2 = .ok (.istore_n 2, 1) := by decide +kernel
theorem dX1_multiply_3 : decode cX1_multiply 3 = .ok (.iload_n 2, 1) := by decide +kernel
theorem dX1_multiply_4 : decode cX1_multiply 4 = .ok (.ifCond .lt 77, 3) := by decide +kernel
theorem dX1_multiply_7 : decode cX1_multiply 7 = .ok (.ldc 15, 2) := by decide +kernel
theorem dX1_multiply_9 : decode cX1_multiply 9 = .ok (.istore_n 3, 1) := by decide +kernel
theorem dX1_multiply_10 : decode cX1_multiply 10 = .ok (.iconst 0, 1) := by decide +kernel
theorem dX1_multiply_11 : decode cX1_multiply 11 = .ok (.istore 4, 2) := by decide +kernel
theorem dX1_multiply_13 : decode cX1_multiply 13 = .ok (.iload 4, 2) := by decide +kernel
theorem dX1_multiply_15 : decode cX1_multiply 15 = .ok (.aload_n 1, 1) := by decide +kernel
theorem dX1_multiply_16 : decode cX1_multiply 16 = .ok (.invokevirtual 16, 3) := by decide +kernel
theorem dX1_multiply_19 : decode cX1_multiply 19 = .ok (.if_icmp .ge 49, 3) := by decide +kernel
theorem dX1_multiply_22 : decode cX1_multiply 22 = .ok (.iload_n 2, 1) := by decide +kernel
theorem dX1_multiply_23 : decode cX1_multiply 23 = .ok (.aload_n 1, 1) := by decide +kernel
theorem dX1_multiply_24 : decode cX1_multiply 24 = .ok (.iload 4, 2) := by decide +kernel
theorem dX1_multiply_26 : decode cX1_multiply 26 = .ok (.invokevirtual 22, 3) := by decide +kernel
theorem dX1_multiply_29 : decode cX1_multiply 29 = .ok (.isub, 1) := by decide +kernel
theorem dX1_multiply_30 : decode cX1_multiply 30 = .ok (.istore 5, 2) := by decide +kernel
theorem dX1_multiply_32 : decode cX1_multiply 32 = .ok (.iload 5, 2) := by decide +kernel
theorem dX1_multiply_34 : decode cX1_multiply 34 = .ok (.ifCond .lt 28, 3) := by decide +kernel
theorem dX1_multiply_37 : decode cX1_multiply 37 = .ok (.iload 5, 2) := by decide +kernel
theorem dX1_multiply_39 : decode cX1_multiply 39 = .ok (.iload_n 2, 1) := by decide +kernel
theorem dX1_multiply_40 : decode cX1_multiply 40 = .ok (.if_icmp .gt 22, 3) := by decide +kernel
theorem dX1_multiply_43 : decode cX1_multiply 43 = .ok (.iload_n 3, 1) := by decide +kernel
theorem dX1_multiply_44 : decode cX1_multiply 44 = .ok (.aload_n 0, 1) := by decide +kernel
theorem dX1_multiply_45 : decode cX1_multiply 45 = .ok (.getfield 9, 3) := by decide +kernel
theorem dX1_multiply_48 : decode cX1_multiply 48 = .ok (.iload 5, 2) := by decide +kernel
theorem dX1_multiply_50 : decode cX1_multiply 50 = .ok (.iaload, 1) := by decide +kernel
theorem dX1_multiply_51 : decode cX1_multiply 51 = .ok (.aload_n 1, 1) := by decide +kernel
theorem dX1_multiply_52 : decode cX1_multiply 52 = .ok (.iload 4, 2) := by decide +kernel
theorem dX1_multiply_54 : decode cX1_multiply 54 = .ok (.invokevirtual 26, 3) := by decide +kernel
theorem dX1_multiply_57 : decode cX1_multiply 57 = .ok (.iadd, 1) := by decide +kernel
theorem dX1_multiply_58 : decode cX1_multiply 58 = .ok (.invokestatic 29, 3) := by decide +kernel
theorem dX1_multiply_61 : decode cX1_multiply 61 = .ok (.istore_n 3, 1) := by decide +kernel
theorem dX1_multiply_62 : decode cX1_multiply 62 = .ok (.iinc 4 1, 3) := by decide +kernel
theorem dX1_multiply_65 : decode cX1_multiply 65 = .ok (.goto (-52), 3) := by decide +kernel
theorem dX1_multiply_68 : decode cX1_multiply 68 = .ok (.aload_n 0, 1) := by decide +kernel
theorem dX1_multiply_69 : decode cX1_multiply 69 = .ok (.getfield 9, 3) := by decide +kernel
theorem dX1_multiply_72 : decode cX1_multiply 72 = .ok (.iload_n 2, 1) := by decide +kernel
theorem dX1_multiply_73 : decode cX1_multiply 73 = .ok (.iload_n 3, 1) := by decide +kernel
theorem dX1_multiply_74 : decode cX1_multiply 74 = .ok (.iastore, 1) := by decide +kernel
theorem dX1_multiply_75 : decode cX1_multiply 75 = .ok (.iinc 2 (-1), 3) := by decide +kernel
theorem dX1_multiply_78 : decode cX1_multiply 78 = .ok (.goto (-75), 3) := by decide +kernel
theorem dX1_multiply_81 : decode cX1_multiply 81 = .ok (.return_, 1) := by decide +kernel
theorem dX1_at_0 : decode cX1_at 0 = .ok (.iload_n 1, 1) := by decide +kernel
theorem dX1_at_1 : decode cX1_at 1 = .ok (.ifCond .lt 29, 3) := by decide +kernel
theorem dX1_at_4 : decode cX1_at 4 = .ok (.iload_n 1, 1) := by decide +kernel
theorem dX1_at_5 : decode cX1_at 5 = .ok (.bipush 60, 2) := by decide +kernel
theorem dX1_at_7 : decode cX1_at 7 = .ok (.if_icmp .gt 23, 3) := by decide +kernel
theorem dX1_at_10 : decode cX1_at 10 = .ok (.aload_n 0, 1) := by decide +kernel
theorem dX1_at_11 : decode cX1_at 11 = .ok (.getfield 9, 3) := by decide +kernel
theorem dX1_at_14 : decode cX1_at 14 = .ok (.iload_n 1, 1) := by decide +kernel
theorem dX1_at_15 : decode cX1_at 15 = .ok (.iaload, 1) := by decide +kernel
theorem dX1_at_16 : decode cX1_at 16 = .ok (.ldc 15, 2) := by decide +kernel
theorem dX1_at_18 : decode cX1_at 18 = .ok (.if_icmp .ge 12, 3) := by decide +kernel
theorem dX1_at_21 : decode cX1_at 21 = .ok (.aload_n 0, 1) := by decide +kernel
theorem dX1_at_22 : decode cX1_at 22 = .ok (.getfield 9, 3) := by decide +kernel
theorem dX1_at_25 : decode cX1_at 25 = .ok (.iload_n 1, 1) := by decide +kernel
theorem dX1_at_26 : decode cX1_at 26 = .ok (.iaload, 1) := by decide +kernel
theorem dX1_at_27 : decode cX1_at 27 = .ok (.goto 5, 3) := by decide +kernel
theorem dX1_at_30 : decode cX1_at 30 = .ok (.bipush (-5), 2) := by decide +kernel
theorem dX1_at_32 : decode cX1_at 32 = .ok (.ireturn, 1) := by decide +kernel
theorem dX1_isLike_0 : decode cX1_isLike 0 = .ok (.iconst 0, 1) := by decide +kernel
theorem dX1_isLike_1 : decode cX1_isLike 1 = .ok (.istore_n 2, 1) := by decide +kernel
theorem dX1_isLike_2 : decode cX1_isLike 2 = .ok (.iload_n 2, 1) := by decide +kernel
theorem dX1_isLike_3 : decode cX1_isLike 3 = .ok (.bipush 60, 2) := by decide +kernel
theorem dX1_isLike_5 : decode cX1_isLike 5 = .ok (.if_icmp .gt 26, 3) := by decide +kernel
theorem dX1_isLike_8 : decode cX1_isLike 8 = .ok (.aload_n 0, 1) := by decide +kernel
theorem dX1_isLike_9 : decode cX1_isLike 9 = .ok (.getfield 9, 3) := by decide +kernel
theorem dX1_isLike_12 : decode cX1_isLike 12 = .ok (.iload_n 2, 1) := by decide +kernel
theorem dX1_isLike_13 : decode cX1_isLike 13 = .ok (.iaload, 1) := by decide +kernel
theorem dX1_isLike_14 : decode cX1_isLike 14 = .ok (.aload_n 1, 1) := by decide +kernel
theorem dX1_isLike_15 : decode cX1_isLike 15 = .ok (.getfield 9, 3) := by decide +kernel
theorem dX1_isLike_18 : decode cX1_isLike 18 = .ok (.iload_n 2, 1) := by decide +kernel
theorem dX1_isLike_19 : decode cX1_isLike 19 = .ok (.iaload, 1) := by decide +kernel
theorem dX1_isLike_20 : decode cX1_isLike 20 = .ok (.if_icmp .eq 5, 3) := by decide +kernel
theorem dX1_isLike_23 : decode cX1_isLike 23 = .ok (.iconst 0, 1) := by decide +kernel
theorem dX1_isLike_24 : decode cX1_isLike 24 = .ok (.ireturn, 1) := by decide +kernel
theorem dX1_isLike_25 : decode cX1_isLike 25 = .ok (.iinc 2 1, 3) := by decide +kernel
theorem dX1_isLike_28 : decode cX1_isLike 28 = .ok (.goto (-26), 3) := by decide +kernel
theorem dX1_isLike_31 : decode cX1_isLike 31 = .ok (.iconst 1, 1) := by decide +kernel
theorem dX1_isLike_32 : decode cX1_isLike 32 = .ok (.ireturn, 1) := by decide +kernel
theorem dX2_init_0 : decode cX2_init 0 = .ok (.aload_n 0, 1) := by decide +kernel
theorem dX2_init_1 : decode cX2_init 1 = .ok (.invokespecial 3, 3) := by decide +kernel
theorem dX2_init_4 : decode cX2_init 4 = .ok (.aload_n 0, 1) := by decide +kernel
theorem dX2_init_5 : decode cX2_init 5 = .ok (.bipush 7, 2) := by decide +kernel
theorem dX2_init_7 : decode cX2_init 7 = .ok (.newarray .int, 2) := by decide +kernel
theorem dX2_init_9 : decode cX2_init 9 = .ok (.putfield 11, 3) := by decide +kernel
theorem dX2_init_12 : decode cX2_init 12 = .ok (.aload_n 0, 1) := by decide +kernel
theorem dX2_init_13 : decode cX2_init 13 = .ok (.bipush 7, 2) := by decide +kernel
theorem dX2_init_15 : decode cX2_init 15 = .ok (.newarray .int, 2) := by decide +kernel
theorem dX2_init_17 : decode cX2_init 17 = .ok (.putfield 15, 3) := by decide +kernel
theorem dX2_init_20 : decode cX2_init 20 = .ok (.aload_n 0, 1) := by decide +kernel
theorem dX2_init_21 : decode cX2_init 21 = .ok (.bipush 7, 2) := by decide +kernel
theorem dX2_init_23 : decode cX2_init 23 = .ok (.newarray .int, 2) := by decide +kernel
theorem dX2_init_25 : decode cX2_init 25 = .ok (.putfield 18, 3) := by decide +kernel
theorem dX2_init_28 : decode cX2_init 28 = .ok (.aload_n 0, 1) := by decide +kernel
theorem dX2_init_29 : decode cX2_init 29 = .ok (.iconst 0, 1) := by decide +kernel
theorem dX2_init_30 : decode cX2_init 30 = .ok (.putfield 21, 3) := by decide +kernel
theorem dX2_init_33 : decode cX2_init 33 = .ok (.return_, 1) := by decide +kernel
theorem dX2_wrap_0 : decode cX2_wrap 0 = .ok (.aload_n 0, 1) := by decide +kernel
theorem dX2_wrap_1 : decode cX2_wrap 1 = .ok (.iconst 0, 1) := by decide +kernel
theorem dX2_wrap_2 : decode cX2_wrap 2 = .ok (.putfield 21, 3) := by decide +kernel
theorem dX2_wrap_5 : decode cX2_wrap 5 = .ok (.aload_n 1, 1) := by decide +kernel
theorem dX2_wrap_6 : decode cX2_wrap 6 = .ok (.invokevirtual 25, 3) := by decide +kernel
theorem dX2_wrap_9 : decode cX2_wrap 9 = .ok (.ifCond .ne 4, 3) := by decide +kernel
theorem dX2_wrap_12 : decode cX2_wrap 12 = .ok (.return_, 1) := by decide +kernel
theorem dX2_wrap_13 : decode cX2_wrap 13 = .ok (.aload_n 0, 1) := by decide +kernel
theorem dX2_wrap_14 : decode cX2_wrap 14 = .ok (.iconst 1, 1) := by decide +kernel
theorem dX2_wrap_15 : decode cX2_wrap 15 = .ok (.iconst 0, 1) := by decide +kernel
theorem dX2_wrap_16 : decode cX2_wrap 16 = .ok (.aload_n 1, 1) := by decide +kernel
theorem dX2_wrap_17 : decode cX2_wrap 17 = .ok (.iconst 1, 1) := by decide +kernel
theorem dX2_wrap_18 : decode cX2_wrap 18 = .ok (.iconst 0, 1) := by decide +kernel
theorem dX2_wrap_19 : decode cX2_wrap 19 = .ok (.invokevirtual 30, 3) := by decide +kernel
theorem dX2_wrap_22 : decode cX2_wrap 22 = .ok (.invokevirtual 34, 3) := by decide +kernel
theorem dX2_wrap_25 : decode cX2_wrap 25 = .ok (.iconst 0, 1) := by decide +kernel
theorem dX2_wrap_26 : decode cX2_wrap 26 = .ok (.istore_n 2, 1) := by decide +kernel
theorem dX2_wrap_27 : decode cX2_wrap 27 = .ok (.iload_n 2, 1) := by decide +kernel
theorem dX2_wrap_28 : decode cX2_wrap 28 = .ok (.getstatic 38, 3) := by decide +kernel
theorem dX2_wrap_31 : decode cX2_wrap 31 = .ok (.arraylength, 1) := by decide +kernel
theorem dX2_wrap_32 : decode cX2_wrap 32 = .ok (.if_icmp .ge 66, 3) := by decide +kernel
theorem dX2_wrap_35 : decode cX2_wrap 35 = .ok (.iload_n 2, 1) := by decide +kernel
theorem dX2_wrap_36 : decode cX2_wrap 36 = .ok (.getstatic 41, 3) := by decide +kernel
theorem dX2_wrap_39 : decode cX2_wrap 39 = .ok (.arraylength, 1) := by decide +kernel
theorem dX2_wrap_40 : decode cX2_wrap 40 = .ok (.if_icmp .ge 58, 3) := by decide +kernel
theorem dX2_wrap_43 : decode cX2_wrap 43 = .ok (.aload_n 1, 1) := by decide +kernel
theorem dX2_wrap_44 : decode cX2_wrap 44 = .ok (.getstatic 38, 3) := by decide +kernel
theorem dX2_wrap_47 : decode cX2_wrap 47 = .ok (.iload_n 2, 1) := by decide +kernel
theorem dX2_wrap_48 : decode cX2_wrap 48 = .ok (.iaload, 1) := by decide +kernel
theorem dX2_wrap_49 : decode cX2_wrap 49 = .ok (.getstatic 41, 3) := by decide +kernel
theorem dX2_wrap_52 : decode cX2_wrap 52 = .ok (.iload_n 2, 1) := by decide +kernel
theorem dX2_wrap_53 : decode cX2_wrap 53 = .ok (.iaload, 1) := by decide +kernel
theorem dX2_wrap_54 : decode cX2_wrap 54 = .ok (.invokevirtual 30, 3) := by decide +kernel
theorem dX2_wrap_57 : decode cX2_wrap 57 = .ok (.istore_n 3, 1) := by decide +kernel
theorem dX2_wrap_58 : decode cX2_wrap 58 = .ok (.aload_n 1, 1) := by decide +kernel
theorem dX2_wrap_59 : decode cX2_wrap 59 = .ok (.getstatic 38, 3) := by decide +kernel
theorem dX2_wrap_62 : decode cX2_wrap 62 = .ok (.iload_n 2, 1) := by decide +kernel
theorem dX2_wrap_63 : decode cX2_wrap 63 = .ok (.iaload, 1) := by decide +kernel
theorem dX2_wrap_64 : decode cX2_wrap 64 = .ok (.getstatic 41, 3) := by decide +kernel
theorem dX2_wrap_67 : decode cX2_wrap 67 = .ok (.iload_n 2, 1) := by decide +kernel
theorem dX2_wrap_68 : decode cX2_wrap 68 = .ok (.iaload, 1) := by decide +kernel
theorem dX2_wrap_69 : decode cX2_wrap 69 = .ok (.iload_n 3, 1) := by decide +kernel
theorem dX2_wrap_70 : decode cX2_wrap 70 = .ok (.invokevirtual 44, 3) := by decide +kernel
theorem dX2_wrap_73 : decode cX2_wrap 73 = .ok (.iconst 2, 1) := by decide +kernel
theorem dX2_wrap_74 : decode cX2_wrap 74 = .ok (.if_icmp .lt 18, 3) := by decide +kernel
theorem dX2_wrap_77 : decode cX2_wrap 77 = .ok (.aload_n 0, 1) := by decide +kernel
theorem dX2_wrap_78 : decode cX2_wrap 78 = .ok (.getstatic 38, 3) := by decide +kernel
theorem dX2_wrap_81 : decode cX2_wrap 81 = .ok (.iload_n 2, 1) := by decide +kernel
theorem dX2_wrap_82 : decode cX2_wrap 82 = .ok (.iaload, 1) := by decide +kernel
theorem dX2_wrap_83 : decode cX2_wrap 83 = .ok (.getstatic 41, 3) := by decide +kernel
theorem dX2_wrap_86 : decode cX2_wrap 86 = .ok (.iload_n 2, 1) := by decide +kernel
theorem dX2_wrap_87 : decode cX2_wrap 87 = .ok (.iaload, 1) := by decide +kernel
theorem dX2_wrap_88 : decode cX2_wrap 88 = .ok (.iload_n 3, 1) := by decide +kernel
theorem dX2_wrap_89 : decode cX2_wrap 89 = .ok (.invokevirtual 34, 3) := by decide +kernel
theorem dX2_wrap_92 : decode cX2_wrap 92 = .ok (.iinc 2 1, 3) := by decide +kernel
theorem dX2_wrap_95 : decode cX2_wrap 95 = .ok (.goto (-68), 3) := by decide +kernel
theorem dX2_wrap_98 : decode cX2_wrap 98 = .ok (.aload_n 0, 1) := by decide +kernel
theorem dX2_wrap_99 : decode cX2_wrap 99 = .ok (.iconst 0, 1) := by decide +kernel
theorem dX2_wrap_100 : decode cX2_wrap 100 = .ok (.iconst 1, 1) := by decide +kernel
theorem dX2_wrap_101 : decode cX2_wrap 101 = .ok (.aload_n 1, 1) := by decide +kernel
theorem dX2_wrap_102 : decode cX2_wrap 102 = .ok (.iconst 0, 1) := by decide +kernel
theorem dX2_wrap_103 : decode cX2_wrap 103 = .ok (.iconst 1, 1) := by decide +kernel
theorem dX2_wrap_104 : decode cX2_wrap 104 = .ok (.invokevirtual 30, 3) := by decide +kernel
theorem dX2_wrap_107 : decode cX2_wrap 107 = .ok (.invokevirtual 34, 3) := by decide +kernel
theorem dX2_wrap_110 : decode cX2_wrap 110 = .ok (.return_, 1) := by decide +kernel
theorem dX2_add_0 : decode cX2_add 0 = .ok (.aload_n 0, 1) := by decide +kernel
theorem dX2_add_1 : decode cX2_add 1 = .ok (.getfield 21, 3) := by decide +kernel
theorem dX2_add_4 : decode cX2_add 4 = .ok (.bipush 7, 2) := by decide +kernel
theorem dX2_add_6 : decode cX2_add 6 = .ok (.if_icmp .ge 43, 3) := by decide +kernel
theorem dX2_add_9 : decode cX2_add 9 = .ok (.aload_n 0, 1) := by decide +kernel
theorem dX2_add_10 : decode cX2_add 10 = .ok (.getfield 11, 3) := by decide +kernel
theorem dX2_add_13 : decode cX2_add 13 = .ok (.aload_n 0, 1) := by decide +kernel
theorem dX2_add_14 : decode cX2_add 14 = .ok (.getfield 21, 3) := by decide +kernel
theorem dX2_add_17 : decode cX2_add 17 = .ok (.iload_n 1, 1) := by decide +kernel
theorem dX2_add_18 : decode cX2_add 18 = .ok (.iastore, 1) := by decide +kernel
theorem dX2_add_19 : decode cX2_add 19 = .ok (.aload_n 0, 1) := by decide +kernel
theorem dX2_add_20 : decode cX2_add 20 = .ok (.getfield 15, 3) := by decide +kernel
theorem dX2_add_23 : decode cX2_add 23 = .ok (.aload_n 0, 1) := by decide +kernel
theorem dX2_add_24 : decode cX2_add 24 = .ok (.getfield 21, 3) := by decide +kernel
theorem dX2_add_27 : decode cX2_add 27 = .ok (.iload_n 2, 1) := by decide +kernel
theorem dX2_add_28 : decode cX2_add 28 = .ok (.iastore, 1) := by decide +kernel
theorem dX2_add_29 : decode cX2_add 29 = .ok (.aload_n 0, 1) := by decide +kernel
theorem dX2_add_30 : decode cX2_add 30 = .ok (.getfield 18, 3) := by decide +kernel
theorem dX2_add_33 : decode cX2_add 33 = .ok (.aload_n 0, 1) := by decide +kernel
theorem dX2_add_34 : decode cX2_add 34 = .ok (.getfield 21, 3) := by decide +kernel
theorem dX2_add_37 : decode cX2_add 37 = .ok (.iload_n 3, 1) := by decide +kernel
theorem dX2_add_38 : decode cX2_add 38 = .ok (.iastore, 1) := by decide +kernel
theorem dX2_add_39 : decode cX2_add 39 = .ok (.aload_n 0, 1) := by decide +kernel
theorem dX2_add_40 : decode cX2_add 40 = .ok (.dup, 1) := by decide +kernel
theorem dX2_add_41 : decode cX2_add 41 = .ok (.getfield 21, 3) := by decide +kernel
theorem dX2_add_44 : decode cX2_add 44 = .ok (.iconst 1, 1) := by decide +kernel
theorem dX2_add_45 : decode cX2_add 45 = .ok (.iadd, 1) := by decide +kernel
theorem dX2_add_46 : decode cX2_add 46 = .ok (.putfield 21, 3) := by decide +kernel
theorem dX2_add_49 : decode cX2_add 49 = .ok (.return_, 1) := by decide +kernel
theorem dX2_size_0 : decode cX2_size 0 = .ok (.aload_n 0, 1) := by decide +kernel
theorem dX2_size_1 : decode cX2_size 1 = .ok (.getfield 21, 3) := by decide +kernel
theorem dX2_size_4 : decode cX2_size 4 = .ok (.ireturn, 1) := by decide +kernel
theorem dX2_weightA_0 : decode cX2_weightA 0 = .ok (.iload_n 1, 1) := by decide +kernel
theorem dX2_weightA_1 : decode cX2_weightA 1 = .ok (.ifCond .lt 20, 3) := by decide +kernel
theorem dX2_weightA_4 : decode cX2_weightA 4 = .ok (.iload_n 1, 1) := by decide +kernel
theorem dX2_weightA_5 : decode cX2_weightA 5 = .ok (.aload_n 0, 1) := by decide +kernel
theorem dX2_weightA_6 : decode cX2_weightA 6 = .ok (.getfield 21, 3) := by decide +kernel
theorem dX2_weightA_9 : decode cX2_weightA 9 = .ok (.if_icmp .ge 12, 3) := by decide +kernel
theorem dX2_weightA_12 : decode cX2_weightA 12 = .ok (.aload_n 0, 1) := by decide +kernel
theorem dX2_weightA_13 : decode cX2_weightA 13 = .ok (.getfield 11, 3) := by decide +kernel
theorem dX2_weightA_16 : decode cX2_weightA 16 = .ok (.iload_n 1, 1) := by decide +kernel
theorem dX2_weightA_17 : decode cX2_weightA 17 = .ok (.iaload, 1) := by decide +kernel
theorem dX2_weightA_18 : decode cX2_weightA 18 = .ok (.goto 4, 3) := by decide +kernel
theorem dX2_weightA_21 : decode cX2_weightA 21 = .ok (.iconst 0, 1) := by decide +kernel
theorem dX2_weightA_22 : decode cX2_weightA 22 = .ok (.ireturn, 1) := by decide +kernel
theorem dX2_weightB_0 : decode cX2_weightB 0 = .ok (.iload_n 1, 1) := by decide +kernel
theorem dX2_weightB_1 : decode cX2_weightB 1 = .ok (.ifCond .lt 20, 3) := by decide +kernel
theorem dX2_weightB_4 : decode cX2_weightB 4 = .ok (.iload_n 1, 1) := by decide +kernel
theorem dX2_weightB_5 : decode cX2_weightB 5 = .ok (.aload_n 0, 1) := by decide +kernel
theorem dX2_weightB_6 : decode cX2_weightB 6 = .ok (.getfield 21, 3) := by decide +kernel
theorem dX2_weightB_9 : decode cX2_weightB 9 = .ok (.if_icmp .ge 12, 3) := by decide +kernel
theorem dX2_weightB_12 : decode cX2_weightB 12 = .ok (.aload_n 0, 1) := by decide +kernel
theorem dX2_weightB_13 : decode cX2_weightB 13 = .ok (.getfield 15, 3) := by decide +kernel
theorem dX2_weightB_16 : decode cX2_weightB 16 = .ok (.iload_n 1, 1) := by decide +kernel
theorem dX2_weightB_17 : decode cX2_weightB 17 = .ok (.iaload, 1) := by decide +kernel
theorem dX2_weightB_18 : decode cX2_weightB 18 = .ok (.goto 4, 3) := by decide +kernel
theorem dX2_weightB_21 : decode cX2_weightB 21 = .ok (.iconst 0, 1) := by decide +kernel
theorem dX2_weightB_22 : decode cX2_weightB 22 = .ok (.ireturn, 1) := by decide +kernel
theorem dX2_level_0 : decode cX2_level 0 = .ok (.iload_n 1, 1) := by decide +kernel
theorem dX2_level_1 : decode cX2_level 1 = .ok (.ifCond .lt 20, 3) := by decide +kernel
theorem dX2_level_4 : decode cX2_level 4 = .ok (.iload_n 1, 1) := by decide +kernel
theorem dX2_level_5 : decode cX2_level 5 = .ok (.aload_n 0, 1) := by decide +kernel
theorem dX2_level_6 : decode cX2_level 6 = .ok (.getfield 21, 3) := by decide +kernel
theorem dX2_level_9 : decode cX2_level 9 = .ok (.if_icmp .ge 12, 3) := by decide +kernel
theorem dX2_level_12 : decode cX2_level 12 = .ok (.aload_n 0, 1) := by decide +kernel
theorem dX2_level_13 : decode cX2_level 13 = .ok (.getfield 18, 3) := by decide +kernel
theorem dX2_level_16 : decode cX2_level 16 = .ok (.iload_n 1, 1) := by decide +kernel
theorem dX2_level_17 : decode cX2_level 17 = .ok (.iaload, 1) := by decide +kernel
theorem dX2_level_18 : decode cX2_level 18 = .ok (.goto 4, 3) := by decide +kernel
theorem dX2_level_21 : decode cX2_level 21 = .ok (.iconst 0, 1) := by decide +kernel
theorem dX2_level_22 : decode cX2_level 22 = .ok (.ireturn, 1) := by decide +kernel
theorem dX2_weigh_0 : decode cX2_weigh 0 = .ok (.aload_n 0, 1) := by decide +kernel
theorem dX2_weigh_1 : decode cX2_weigh 1 = .ok (.iload_n 1, 1) := by decide +kernel
theorem dX2_weigh_2 : decode cX2_weigh 2 = .ok (.invokevirtual 48, 3) := by decide +kernel
theorem dX2_weigh_5 : decode cX2_weigh 5 = .ok (.iload_n 2, 1) := by decide +kernel
theorem dX2_weigh_6 : decode cX2_weigh 6 = .ok (.imul, 1) := by decide +kernel
theorem dX2_weigh_7 : decode cX2_weigh 7 = .ok (.aload_n 0, 1) := by decide +kernel
theorem dX2_weigh_8 : decode cX2_weigh 8 = .ok (.iload_n 1, 1) := by decide +kernel
theorem dX2_weigh_9 : decode cX2_weigh 9 = .ok (.invokevirtual 52, 3) := by decide +kernel
theorem dX2_weigh_12 : decode cX2_weigh 12 = .ok (.iload_n 3, 1) := by decide +kernel
theorem dX2_weigh_13 : decode cX2_weigh 13 = .ok (.imul, 1) := by decide +kernel
theorem dX2_weigh_14 : decode cX2_weigh 14 = .ok (.iadd, 1) := by decide +kernel
theorem dX2_weigh_15 : decode cX2_weigh 15 = .ok (.ireturn, 1) := by decide +kernel
theorem dX2_covers_0 : decode cX2_covers 0 = .ok (.iconst 0, 1) := by decide +kernel
theorem dX2_covers_1 : decode cX2_covers 1 = .ok (.istore_n 3, 1) := by decide +kernel
theorem dX2_covers_2 : decode cX2_covers 2 = .ok (.iload_n 3, 1) := by decide +kernel
theorem dX2_covers_3 : decode cX2_covers 3 = .ok (.aload_n 0, 1) := by decide +kernel
theorem dX2_covers_4 : decode cX2_covers 4 = .ok (.getfield 21, 3) := by decide +kernel
theorem dX2_covers_7 : decode cX2_covers 7 = .ok (.if_icmp .ge 37, 3) := by decide +kernel
theorem dX2_covers_10 : decode cX2_covers 10 = .ok (.aload_n 0, 1) := by decide +kernel
theorem dX2_covers_11 : decode cX2_covers 11 = .ok (.getfield 11, 3) := by decide +kernel
theorem dX2_covers_14 : decode cX2_covers 14 = .ok (.iload_n 3, 1) := by decide +kernel
theorem dX2_covers_15 : decode cX2_covers 15 = .ok (.iaload, 1) := by decide +kernel
theorem dX2_covers_16 : decode cX2_covers 16 = .ok (.iload_n 1, 1) := by decide +kernel
theorem dX2_covers_17 : decode cX2_covers 17 = .ok (.imul, 1) := by decide +kernel
theorem dX2_covers_18 : decode cX2_covers 18 = .ok (.aload_n 0, 1) := by decide +kernel
theorem dX2_covers_19 : decode cX2_covers 19 = .ok (.getfield 15, 3) := by decide +kernel
theorem dX2_covers_22 : decode cX2_covers 22 = .ok (.iload_n 3, 1) := by decide +kernel
theorem dX2_covers_23 : decode cX2_covers 23 = .ok (.iaload, 1) := by decide +kernel
theorem dX2_covers_24 : decode cX2_covers 24 = .ok (.iload_n 2, 1) := by decide +kernel
theorem dX2_covers_25 : decode cX2_covers 25 = .ok (.imul, 1) := by decide +kernel
theorem dX2_covers_26 : decode cX2_covers 26 = .ok (.iadd, 1) := by decide +kernel
theorem dX2_covers_27 : decode cX2_covers 27 = .ok (.aload_n 0, 1) := by decide +kernel
theorem dX2_covers_28 : decode cX2_covers 28 = .ok (.getfield 18, 3) := by decide +kernel
theorem dX2_covers_31 : decode cX2_covers 31 = .ok (.iload_n 3, 1) := by decide +kernel
theorem dX2_covers_32 : decode cX2_covers 32 = .ok (.iaload, 1) := by decide +kernel
theorem dX2_covers_33 : decode cX2_covers 33 = .ok (.if_icmp .ge 5, 3) := by decide +kernel
theorem dX2_covers_36 : decode cX2_covers 36 = .ok (.iconst 0, 1) := by decide +kernel
theorem dX2_covers_37 : decode cX2_covers 37 = .ok (.ireturn, 1) := by decide +kernel
theorem dX2_covers_38 : decode cX2_covers 38 = .ok (.iinc 3 1, 3) := by decide +kernel
theorem dX2_covers_41 : decode cX2_covers 41 = .ok (.goto (-39), 3) := by decide +kernel
theorem dX2_covers_44 : decode cX2_covers 44 = .ok (.iconst 1, 1) := by decide +kernel
theorem dX2_covers_45 : decode cX2_covers 45 = .ok (.ireturn, 1) := by decide +kernel
theorem dX2_barring_0 : decode cX2_barring 0 = .ok (.iconst 0, 1) := by decide +kernel
theorem dX2_barring_1 : decode cX2_barring 1 = .ok (.istore 5, 2) := by decide +kernel
theorem dX2_barring_3 : decode cX2_barring 3 = .ok (.iload 5, 2) := by decide +kernel
theorem dX2_barring_5 : decode cX2_barring 5 = .ok (.aload_n 0, 1) := by decide +kernel
theorem dX2_barring_6 : decode cX2_barring 6 = .ok (.getfield 21, 3) := by decide +kernel
theorem dX2_barring_9 : decode cX2_barring 9 = .ok (.if_icmp .ge 64, 3) := by decide +kernel
theorem dX2_barring_12 : decode cX2_barring 12 = .ok (.aload_n 0, 1) := by decide +kernel
theorem dX2_barring_13 : decode cX2_barring 13 = .ok (.getfield 11, 3) := by decide +kernel
theorem dX2_barring_16 : decode cX2_barring 16 = .ok (.iload 5, 2) := by decide +kernel
theorem dX2_barring_18 : decode cX2_barring 18 = .ok (.iaload, 1) := by decide +kernel
theorem dX2_barring_19 : decode cX2_barring 19 = .ok (.iload_n 1, 1) := by decide +kernel
theorem dX2_barring_20 : decode cX2_barring 20 = .ok (.iconst 1, 1) := by decide +kernel
theorem dX2_barring_21 : decode cX2_barring 21 = .ok (.iadd, 1) := by decide +kernel
theorem dX2_barring_22 : decode cX2_barring 22 = .ok (.imul, 1) := by decide +kernel
theorem dX2_barring_23 : decode cX2_barring 23 = .ok (.aload_n 0, 1) := by decide +kernel
theorem dX2_barring_24 : decode cX2_barring 24 = .ok (.getfield 15, 3) := by decide +kernel
theorem dX2_barring_27 : decode cX2_barring 27 = .ok (.iload 5, 2) := by decide +kernel
theorem dX2_barring_29 : decode cX2_barring 29 = .ok (.iaload, 1) := by decide +kernel
theorem dX2_barring_30 : decode cX2_barring 30 = .ok (.iload_n 2, 1) := by decide +kernel
theorem dX2_barring_31 : decode cX2_barring 31 = .ok (.iconst 1, 1) := by decide +kernel
theorem dX2_barring_32 : decode cX2_barring 32 = .ok (.iadd, 1) := by decide +kernel
theorem dX2_barring_33 : decode cX2_barring 33 = .ok (.imul, 1) := by decide +kernel
theorem dX2_barring_34 : decode cX2_barring 34 = .ok (.iadd, 1) := by decide +kernel
theorem dX2_barring_35 : decode cX2_barring 35 = .ok (.istore 6, 2) := by decide +kernel
theorem dX2_barring_37 : decode cX2_barring 37 = .ok (.aload_n 0, 1) := by decide +kernel
theorem dX2_barring_38 : decode cX2_barring 38 = .ok (.getfield 18, 3) := by decide +kernel
theorem dX2_barring_41 : decode cX2_barring 41 = .ok (.iload 5, 2) := by decide +kernel
theorem dX2_barring_43 : decode cX2_barring 43 = .ok (.iaload, 1) := by decide +kernel
theorem dX2_barring_44 : decode cX2_barring 44 = .ok (.ifCond .le 23, 3) := by decide +kernel
theorem dX2_barring_47 : decode cX2_barring 47 = .ok (.iload 6, 2) := by decide +kernel
theorem dX2_barring_49 : decode cX2_barring 49 = .ok (.iload 4, 2) := by decide +kernel
theorem dX2_barring_51 : decode cX2_barring 51 = .ok (.imul, 1) := by decide +kernel
theorem dX2_barring_52 : decode cX2_barring 52 = .ok (.iload_n 3, 1) := by decide +kernel
theorem dX2_barring_53 : decode cX2_barring 53 = .ok (.aload_n 0, 1) := by decide +kernel
theorem dX2_barring_54 : decode cX2_barring 54 = .ok (.getfield 18, 3) := by decide +kernel
theorem dX2_barring_57 : decode cX2_barring 57 = .ok (.iload 5, 2) := by decide +kernel
theorem dX2_barring_59 : decode cX2_barring 59 = .ok (.iaload, 1) := by decide +kernel
theorem dX2_barring_60 : decode cX2_barring 60 = .ok (.imul, 1) := by decide +kernel
theorem dX2_barring_61 : decode cX2_barring 61 = .ok (.if_icmp .gt 6, 3) := by decide +kernel
theorem dX2_barring_64 : decode cX2_barring 64 = .ok (.iload 5, 2) := by decide +kernel
theorem dX2_barring_66 : decode cX2_barring 66 = .ok (.ireturn, 1) := by decide +kernel
theorem dX2_barring_67 : decode cX2_barring 67 = .ok (.iinc 5 1, 3) := by decide +kernel
theorem dX2_barring_70 : decode cX2_barring 70 = .ok (.goto (-67), 3) := by decide +kernel
theorem dX2_barring_73 : decode cX2_barring 73 = .ok (.iconst (-1), 1) := by decide +kernel
theorem dX2_barring_74 : decode cX2_barring 74 = .ok (.ireturn, 1) := by decide +kernel
theorem dX2_tightest_0 : decode cX2_tightest 0 = .ok (.iconst (-1), 1) := by decide +kernel
theorem dX2_tightest_1 : decode cX2_tightest 1 = .ok (.istore_n 3, 1) := by decide +kernel
theorem dX2_tightest_2 : decode cX2_tightest 2 = .ok (.iconst 0, 1) := by decide +kernel
theorem dX2_tightest_3 : decode cX2_tightest 3 = .ok (.istore 4, 2) := by decide +kernel
theorem dX2_tightest_5 : decode cX2_tightest 5 = .ok (.iconst 0, 1) := by decide +kernel
theorem dX2_tightest_6 : decode cX2_tightest 6 = .ok (.istore 5, 2) := by decide +kernel
theorem dX2_tightest_8 : decode cX2_tightest 8 = .ok (.iload 5, 2) := by decide +kernel
theorem dX2_tightest_10 : decode cX2_tightest 10 = .ok (.aload_n 0, 1) := by decide +kernel
theorem dX2_tightest_11 : decode cX2_tightest 11 = .ok (.getfield 21, 3) := by decide +kernel
theorem dX2_tightest_14 : decode cX2_tightest 14 = .ok (.if_icmp .ge 77, 3) := by decide +kernel
theorem dX2_tightest_17 : decode cX2_tightest 17 = .ok (.aload_n 0, 1) := by decide +kernel
theorem dX2_tightest_18 : decode cX2_tightest 18 = .ok (.getfield 11, 3) := by decide +kernel
theorem dX2_tightest_21 : decode cX2_tightest 21 = .ok (.iload 5, 2) := by decide +kernel
theorem dX2_tightest_23 : decode cX2_tightest 23 = .ok (.iaload, 1) := by decide +kernel
theorem dX2_tightest_24 : decode cX2_tightest 24 = .ok (.iload_n 1, 1) := by decide +kernel
theorem dX2_tightest_25 : decode cX2_tightest 25 = .ok (.iconst 1, 1) := by decide +kernel
theorem dX2_tightest_26 : decode cX2_tightest 26 = .ok (.iadd, 1) := by decide +kernel
theorem dX2_tightest_27 : decode cX2_tightest 27 = .ok (.imul, 1) := by decide +kernel
theorem dX2_tightest_28 : decode cX2_tightest 28 = .ok (.aload_n 0, 1) := by decide +kernel
theorem dX2_tightest_29 : decode cX2_tightest 29 = .ok (.getfield 15, 3) := by decide +kernel
theorem dX2_tightest_32 : decode cX2_tightest 32 = .ok (.iload 5, 2) := by decide +kernel
theorem dX2_tightest_34 : decode cX2_tightest 34 = .ok (.iaload, 1) := by decide +kernel
theorem dX2_tightest_35 : decode cX2_tightest 35 = .ok (.iload_n 2, 1) := by decide +kernel
theorem dX2_tightest_36 : decode cX2_tightest 36 = .ok (.iconst 1, 1) := by decide +kernel
theorem dX2_tightest_37 : decode cX2_tightest 37 = .ok (.iadd, 1) := by decide +kernel
theorem dX2_tightest_38 : decode cX2_tightest 38 = .ok (.imul, 1) := by decide +kernel
theorem dX2_tightest_39 : decode cX2_tightest 39 = .ok (.iadd, 1) := by decide +kernel
theorem dX2_tightest_40 : decode cX2_tightest 40 = .ok (.istore 6, 2) := by decide +kernel
theorem dX2_tightest_42 : decode cX2_tightest 42 = .ok (.aload_n 0, 1) := by decide +kernel
theorem dX2_tightest_43 : decode cX2_tightest 43 = .ok (.getfield 18, 3) := by decide +kernel
theorem dX2_tightest_46 : decode cX2_tightest 46 = .ok (.iload 5, 2) := by decide +kernel
theorem dX2_tightest_48 : decode cX2_tightest 48 = .ok (.iaload, 1) := by decide +kernel
theorem dX2_tightest_49 : decode cX2_tightest 49 = .ok (.ifCond .le 36, 3) := by decide +kernel
theorem dX2_tightest_52 : decode cX2_tightest 52 = .ok (.iload_n 3, 1) := by decide +kernel
theorem dX2_tightest_53 : decode cX2_tightest 53 = .ok (.ifCond .lt 25, 3) := by decide +kernel
theorem dX2_tightest_56 : decode cX2_tightest 56 = .ok (.iload 6, 2) := by decide +kernel
theorem dX2_tightest_58 : decode cX2_tightest 58 = .ok (.aload_n 0, 1) := by decide +kernel
theorem dX2_tightest_59 : decode cX2_tightest 59 = .ok (.getfield 18, 3) := by decide +kernel
theorem dX2_tightest_62 : decode cX2_tightest 62 = .ok (.iload_n 3, 1) := by decide +kernel
theorem dX2_tightest_63 : decode cX2_tightest 63 = .ok (.iaload, 1) := by decide +kernel
theorem dX2_tightest_64 : decode cX2_tightest 64 = .ok (.imul, 1) := by decide +kernel
theorem dX2_tightest_65 : decode cX2_tightest 65 = .ok (.iload 4, 2) := by decide +kernel
theorem dX2_tightest_67 : decode cX2_tightest 67 = .ok (.aload_n 0, 1) := by decide +kernel
theorem dX2_tightest_68 : decode cX2_tightest 68 = .ok (.getfield 18, 3) := by decide +kernel
theorem dX2_tightest_71 : decode cX2_tightest 71 = .ok (.iload 5, 2) := by decide +kernel
theorem dX2_tightest_73 : decode cX2_tightest 73 = .ok (.iaload, 1) := by decide +kernel
theorem dX2_tightest_74 : decode cX2_tightest 74 = .ok (.imul, 1) := by decide +kernel
theorem dX2_tightest_75 : decode cX2_tightest 75 = .ok (.if_icmp .ge 10, 3) := by decide +kernel
theorem dX2_tightest_78 : decode cX2_tightest 78 = .ok (.iload 5, 2) := by decide +kernel
theorem dX2_tightest_80 : decode cX2_tightest 80 = .ok (.istore_n 3, 1) := by decide +kernel
theorem dX2_tightest_81 : decode cX2_tightest 81 = .ok (.iload 6, 2) := by decide +kernel
theorem dX2_tightest_83 : decode cX2_tightest 83 = .ok (.istore 4, 2) := by decide +kernel
theorem dX2_tightest_85 : decode cX2_tightest 85 = .ok (.iinc 5 1, 3) := by decide +kernel
theorem dX2_tightest_88 : decode cX2_tightest 88 = .ok (.goto (-80), 3) := by decide +kernel
theorem dX2_tightest_91 : decode cX2_tightest 91 = .ok (.iload_n 3, 1) := by decide +kernel
theorem dX2_tightest_92 : decode cX2_tightest 92 = .ok (.ireturn, 1) := by decide +kernel
theorem dX2_floorAt_0 : decode cX2_floorAt 0 = .ok (.iconst 0, 1) := by decide +kernel
theorem dX2_floorAt_1 : decode cX2_floorAt 1 = .ok (.istore_n 2, 1) := by decide +kernel
theorem dX2_floorAt_2 : decode cX2_floorAt 2 = .ok (.iload_n 2, 1) := by decide +kernel
theorem dX2_floorAt_3 : decode cX2_floorAt 3 = .ok (.bipush 9, 2) := by decide +kernel
theorem dX2_floorAt_5 : decode cX2_floorAt 5 = .ok (.if_icmp .gt 20, 3) := by decide +kernel
theorem dX2_floorAt_8 : decode cX2_floorAt 8 = .ok (.aload_n 0, 1) := by decide +kernel
theorem dX2_floorAt_9 : decode cX2_floorAt 9 = .ok (.iload_n 1, 1) := by decide +kernel
theorem dX2_floorAt_10 : decode cX2_floorAt 10 = .ok (.iload_n 2, 1) := by decide +kernel
theorem dX2_floorAt_11 : decode cX2_floorAt 11 = .ok (.invokevirtual 55, 3) := by decide +kernel
theorem dX2_floorAt_14 : decode cX2_floorAt 14 = .ok (.ifCond .eq 5, 3) := by decide +kernel
theorem dX2_floorAt_17 : decode cX2_floorAt 17 = .ok (.iload_n 2, 1) := by decide +kernel
theorem dX2_floorAt_18 : decode cX2_floorAt 18 = .ok (.ireturn, 1) := by decide +kernel
theorem dX2_floorAt_19 : decode cX2_floorAt 19 = .ok (.iinc 2 1, 3) := by decide +kernel
theorem dX2_floorAt_22 : decode cX2_floorAt 22 = .ok (.goto (-20), 3) := by decide +kernel
theorem dX2_floorAt_25 : decode cX2_floorAt 25 = .ok (.bipush 10, 2) := by decide +kernel
theorem dX2_floorAt_27 : decode cX2_floorAt 27 = .ok (.ireturn, 1) := by decide +kernel
theorem dX2_putCorners_0 : decode cX2_putCorners 0 = .ok (.aload_n 1, 1) := by decide +kernel
theorem dX2_putCorners_1 : decode cX2_putCorners 1 = .ok (.invokevirtual 59, 3) := by decide +kernel
theorem dX2_putCorners_4 : decode cX2_putCorners 4 = .ok (.iconst 0, 1) := by decide +kernel
theorem dX2_putCorners_5 : decode cX2_putCorners 5 = .ok (.istore_n 2, 1) := by decide +kernel
theorem dX2_putCorners_6 : decode cX2_putCorners 6 = .ok (.bipush 10, 2) := by decide +kernel
theorem dX2_putCorners_8 : decode cX2_putCorners 8 = .ok (.istore_n 3, 1) := by decide +kernel
theorem dX2_putCorners_9 : decode cX2_putCorners 9 = .ok (.iconst 0, 1) := by decide +kernel
theorem dX2_putCorners_10 : decode cX2_putCorners 10 = .ok (.istore 4, 2) := by decide +kernel
theorem dX2_putCorners_12 : decode cX2_putCorners 12 = .ok (.iload 4, 2) := by decide +kernel
theorem dX2_putCorners_14 : decode cX2_putCorners 14 = .ok (.bipush 9, 2) := by decide +kernel
theorem dX2_putCorners_16 : decode cX2_putCorners 16 = .ok (.if_icmp .gt 37, 3) := by decide +kernel
theorem dX2_putCorners_19 : decode cX2_putCorners 19 = .ok (.aload_n 0, 1) := by decide +kernel
theorem dX2_putCorners_20 : decode cX2_putCorners 20 = .ok (.iload 4, 2) := by decide +kernel
theorem dX2_putCorners_22 : decode cX2_putCorners 22 = .ok (.invokevirtual 62, 3) := by decide +kernel
theorem dX2_putCorners_25 : decode cX2_putCorners 25 = .ok (.istore 5, 2) := by decide +kernel
theorem dX2_putCorners_27 : decode cX2_putCorners 27 = .ok (.iload 5, 2) := by decide +kernel
theorem dX2_putCorners_29 : decode cX2_putCorners 29 = .ok (.iload_n 3, 1) := by decide +kernel
theorem dX2_putCorners_30 : decode cX2_putCorners 30 = .ok (.if_icmp .ge 17, 3) := by decide +kernel
theorem dX2_putCorners_33 : decode cX2_putCorners 33 = .ok (.aload_n 1, 1) := by decide +kernel
theorem dX2_putCorners_34 : decode cX2_putCorners 34 = .ok (.iload 4, 2) := by decide +kernel
theorem dX2_putCorners_36 : decode cX2_putCorners 36 = .ok (.iload 5, 2) := by decide +kernel
theorem dX2_putCorners_38 : decode cX2_putCorners 38 = .ok (.invokevirtual 65, 3) := by decide +kernel
theorem dX2_putCorners_41 : decode cX2_putCorners 41 = .ok (.iinc 2 1, 3) := by decide +kernel
theorem dX2_putCorners_44 : decode cX2_putCorners 44 = .ok (.iload 5, 2) := by decide +kernel
theorem dX2_putCorners_46 : decode cX2_putCorners 46 = .ok (.istore_n 3, 1) := by decide +kernel
theorem dX2_putCorners_47 : decode cX2_putCorners 47 = .ok (.iinc 4 1, 3) := by decide +kernel
theorem dX2_putCorners_50 : decode cX2_putCorners 50 = .ok (.goto (-38), 3) := by decide +kernel
theorem dX2_putCorners_53 : decode cX2_putCorners 53 = .ok (.iload_n 2, 1) := by decide +kernel
theorem dX2_putCorners_54 : decode cX2_putCorners 54 = .ok (.ireturn, 1) := by decide +kernel
theorem dX3_init_0 : decode cX3_init 0 = .ok (.aload_n 0, 1) := by decide +kernel
theorem dX3_init_1 : decode cX3_init 1 = .ok (.invokespecial 3, 3) := by decide +kernel
theorem dX3_init_4 : decode cX3_init 4 = .ok (.aload_n 0, 1) := by decide +kernel
theorem dX3_init_5 : decode cX3_init 5 = .ok (.bipush 6, 2) := by decide +kernel
theorem dX3_init_7 : decode cX3_init 7 = .ok (.newarray .int, 2) := by decide +kernel
theorem dX3_init_9 : decode cX3_init 9 = .ok (.putfield 9, 3) := by decide +kernel
theorem dX3_init_12 : decode cX3_init 12 = .ok (.aload_n 0, 1) := by decide +kernel
theorem dX3_init_13 : decode cX3_init 13 = .ok (.bipush 6, 2) := by decide +kernel
theorem dX3_init_15 : decode cX3_init 15 = .ok (.newarray .int, 2) := by decide +kernel
theorem dX3_init_17 : decode cX3_init 17 = .ok (.putfield 15, 3) := by decide +kernel
theorem dX3_init_20 : decode cX3_init 20 = .ok (.aload_n 0, 1) := by decide +kernel
theorem dX3_init_21 : decode cX3_init 21 = .ok (.iconst 0, 1) := by decide +kernel
theorem dX3_init_22 : decode cX3_init 22 = .ok (.putfield 18, 3) := by decide +kernel
theorem dX3_init_25 : decode cX3_init 25 = .ok (.return_, 1) := by decide +kernel
theorem dX3_size_0 : decode cX3_size 0 = .ok (.aload_n 0, 1) := by decide +kernel
theorem dX3_size_1 : decode cX3_size 1 = .ok (.getfield 18, 3) := by decide +kernel
theorem dX3_size_4 : decode cX3_size 4 = .ok (.ireturn, 1) := by decide +kernel
theorem dX3_powerA_0 : decode cX3_powerA 0 = .ok (.iload_n 1, 1) := by decide +kernel
theorem dX3_powerA_1 : decode cX3_powerA 1 = .ok (.ifCond .lt 20, 3) := by decide +kernel
theorem dX3_powerA_4 : decode cX3_powerA 4 = .ok (.iload_n 1, 1) := by decide +kernel
theorem dX3_powerA_5 : decode cX3_powerA 5 = .ok (.aload_n 0, 1) := by decide +kernel
theorem dX3_powerA_6 : decode cX3_powerA 6 = .ok (.getfield 18, 3) := by decide +kernel
theorem dX3_powerA_9 : decode cX3_powerA 9 = .ok (.if_icmp .ge 12, 3) := by decide +kernel
theorem dX3_powerA_12 : decode cX3_powerA 12 = .ok (.aload_n 0, 1) := by decide +kernel
theorem dX3_powerA_13 : decode cX3_powerA 13 = .ok (.getfield 9, 3) := by decide +kernel
theorem dX3_powerA_16 : decode cX3_powerA 16 = .ok (.iload_n 1, 1) := by decide +kernel
theorem dX3_powerA_17 : decode cX3_powerA 17 = .ok (.iaload, 1) := by decide +kernel
theorem dX3_powerA_18 : decode cX3_powerA 18 = .ok (.goto 4, 3) := by decide +kernel
theorem dX3_powerA_21 : decode cX3_powerA 21 = .ok (.iconst 0, 1) := by decide +kernel
theorem dX3_powerA_22 : decode cX3_powerA 22 = .ok (.ireturn, 1) := by decide +kernel
theorem dX3_powerB_0 : decode cX3_powerB 0 = .ok (.iload_n 1, 1) := by decide +kernel
theorem dX3_powerB_1 : decode cX3_powerB 1 = .ok (.ifCond .lt 20, 3) := by decide +kernel
theorem dX3_powerB_4 : decode cX3_powerB 4 = .ok (.iload_n 1, 1) := by decide +kernel
theorem dX3_powerB_5 : decode cX3_powerB 5 = .ok (.aload_n 0, 1) := by decide +kernel
theorem dX3_powerB_6 : decode cX3_powerB 6 = .ok (.getfield 18, 3) := by decide +kernel
theorem dX3_powerB_9 : decode cX3_powerB 9 = .ok (.if_icmp .ge 12, 3) := by decide +kernel
theorem dX3_powerB_12 : decode cX3_powerB 12 = .ok (.aload_n 0, 1) := by decide +kernel
theorem dX3_powerB_13 : decode cX3_powerB 13 = .ok (.getfield 15, 3) := by decide +kernel
theorem dX3_powerB_16 : decode cX3_powerB 16 = .ok (.iload_n 1, 1) := by decide +kernel
theorem dX3_powerB_17 : decode cX3_powerB 17 = .ok (.iaload, 1) := by decide +kernel
theorem dX3_powerB_18 : decode cX3_powerB 18 = .ok (.goto 4, 3) := by decide +kernel
theorem dX3_powerB_21 : decode cX3_powerB 21 = .ok (.iconst 0, 1) := by decide +kernel
theorem dX3_powerB_22 : decode cX3_powerB 22 = .ok (.ireturn, 1) := by decide +kernel
theorem dX3_find_0 : decode cX3_find 0 = .ok (.iconst 0, 1) := by decide +kernel
theorem dX3_find_1 : decode cX3_find 1 = .ok (.istore_n 3, 1) := by decide +kernel
theorem dX3_find_2 : decode cX3_find 2 = .ok (.iload_n 3, 1) := by decide +kernel
theorem dX3_find_3 : decode cX3_find 3 = .ok (.aload_n 0, 1) := by decide +kernel
theorem dX3_find_4 : decode cX3_find 4 = .ok (.getfield 18, 3) := by decide +kernel
theorem dX3_find_7 : decode cX3_find 7 = .ok (.if_icmp .ge 31, 3) := by decide +kernel
theorem dX3_find_10 : decode cX3_find 10 = .ok (.aload_n 0, 1) := by decide +kernel
theorem dX3_find_11 : decode cX3_find 11 = .ok (.getfield 9, 3) := by decide +kernel
theorem dX3_find_14 : decode cX3_find 14 = .ok (.iload_n 3, 1) := by decide +kernel
theorem dX3_find_15 : decode cX3_find 15 = .ok (.iaload, 1) := by decide +kernel
theorem dX3_find_16 : decode cX3_find 16 = .ok (.iload_n 1, 1) := by decide +kernel
theorem dX3_find_17 : decode cX3_find 17 = .ok (.if_icmp .ne 15, 3) := by decide +kernel
theorem dX3_find_20 : decode cX3_find 20 = .ok (.aload_n 0, 1) := by decide +kernel
theorem dX3_find_21 : decode cX3_find 21 = .ok (.getfield 15, 3) := by decide +kernel
theorem dX3_find_24 : decode cX3_find 24 = .ok (.iload_n 3, 1) := by decide +kernel
theorem dX3_find_25 : decode cX3_find 25 = .ok (.iaload, 1) := by decide +kernel
theorem dX3_find_26 : decode cX3_find 26 = .ok (.iload_n 2, 1) := by decide +kernel
theorem dX3_find_27 : decode cX3_find 27 = .ok (.if_icmp .ne 5, 3) := by decide +kernel
theorem dX3_find_30 : decode cX3_find 30 = .ok (.iload_n 3, 1) := by decide +kernel
theorem dX3_find_31 : decode cX3_find 31 = .ok (.ireturn, 1) := by decide +kernel
theorem dX3_find_32 : decode cX3_find 32 = .ok (.iinc 3 1, 3) := by decide +kernel
theorem dX3_find_35 : decode cX3_find 35 = .ok (.goto (-33), 3) := by decide +kernel
theorem dX3_find_38 : decode cX3_find 38 = .ok (.iconst (-1), 1) := by decide +kernel
theorem dX3_find_39 : decode cX3_find 39 = .ok (.ireturn, 1) := by decide +kernel
theorem dX3_add_0 : decode cX3_add 0 = .ok (.aload_n 0, 1) := by decide +kernel
theorem dX3_add_1 : decode cX3_add 1 = .ok (.getfield 18, 3) := by decide +kernel
theorem dX3_add_4 : decode cX3_add 4 = .ok (.bipush 6, 2) := by decide +kernel
theorem dX3_add_6 : decode cX3_add 6 = .ok (.if_icmp .ge 33, 3) := by decide +kernel
theorem dX3_add_9 : decode cX3_add 9 = .ok (.aload_n 0, 1) := by decide +kernel
theorem dX3_add_10 : decode cX3_add 10 = .ok (.getfield 9, 3) := by decide +kernel
theorem dX3_add_13 : decode cX3_add 13 = .ok (.aload_n 0, 1) := by decide +kernel
theorem dX3_add_14 : decode cX3_add 14 = .ok (.getfield 18, 3) := by decide +kernel
theorem dX3_add_17 : decode cX3_add 17 = .ok (.iload_n 1, 1) := by decide +kernel
theorem dX3_add_18 : decode cX3_add 18 = .ok (.iastore, 1) := by decide +kernel
theorem dX3_add_19 : decode cX3_add 19 = .ok (.aload_n 0, 1) := by decide +kernel
theorem dX3_add_20 : decode cX3_add 20 = .ok (.getfield 15, 3) := by decide +kernel
theorem dX3_add_23 : decode cX3_add 23 = .ok (.aload_n 0, 1) := by decide +kernel
theorem dX3_add_24 : decode cX3_add 24 = .ok (.getfield 18, 3) := by decide +kernel
theorem dX3_add_27 : decode cX3_add 27 = .ok (.iload_n 2, 1) := by decide +kernel
theorem dX3_add_28 : decode cX3_add 28 = .ok (.iastore, 1) := by decide +kernel
theorem dX3_add_29 : decode cX3_add 29 = .ok (.aload_n 0, 1) := by decide +kernel
theorem dX3_add_30 : decode cX3_add 30 = .ok (.dup, 1) := by decide +kernel
theorem dX3_add_31 : decode cX3_add 31 = .ok (.getfield 18, 3) := by decide +kernel
theorem dX3_add_34 : decode cX3_add 34 = .ok (.iconst 1, 1) := by decide +kernel
theorem dX3_add_35 : decode cX3_add 35 = .ok (.iadd, 1) := by decide +kernel
theorem dX3_add_36 : decode cX3_add 36 = .ok (.putfield 18, 3) := by decide +kernel
theorem dX3_add_39 : decode cX3_add 39 = .ok (.return_, 1) := by decide +kernel
theorem dX3_addIfNew_0 : decode cX3_addIfNew 0 = .ok (.aload_n 0, 1) := by decide +kernel
theorem dX3_addIfNew_1 : decode cX3_addIfNew 1 = .ok (.iload_n 1, 1) := by decide +kernel
theorem dX3_addIfNew_2 : decode cX3_addIfNew 2 = .ok (.iload_n 2, 1) := by decide +kernel
theorem dX3_addIfNew_3 : decode cX3_addIfNew 3 = .ok (.invokevirtual 22, 3) := by decide +kernel
theorem dX3_addIfNew_6 : decode cX3_addIfNew 6 = .ok (.ifCond .ge 9, 3) := by decide +kernel
theorem dX3_addIfNew_9 : decode cX3_addIfNew 9 = .ok (.aload_n 0, 1) := by decide +kernel
theorem dX3_addIfNew_10 : decode cX3_addIfNew 10 = .ok (.iload_n 1, 1) := by decide +kernel
theorem dX3_addIfNew_11 : decode cX3_addIfNew 11 = .ok (.iload_n 2, 1) := by decide +kernel
theorem dX3_addIfNew_12 : decode cX3_addIfNew 12 = .ok (.invokevirtual 26, 3) := by decide +kernel
theorem dX3_addIfNew_15 : decode cX3_addIfNew 15 = .ok (.return_, 1) := by decide +kernel
theorem dX3_replace_0 : decode cX3_replace 0 = .ok (.iload_n 1, 1) := by decide +kernel
theorem dX3_replace_1 : decode cX3_replace 1 = .ok (.ifCond .lt 25, 3) := by decide +kernel
theorem dX3_replace_4 : decode cX3_replace 4 = .ok (.iload_n 1, 1) := by decide +kernel
theorem dX3_replace_5 : decode cX3_replace 5 = .ok (.aload_n 0, 1) := by decide +kernel
theorem dX3_replace_6 : decode cX3_replace 6 = .ok (.getfield 18, 3) := by decide +kernel
theorem dX3_replace_9 : decode cX3_replace 9 = .ok (.if_icmp .ge 17, 3) := by decide +kernel
theorem dX3_replace_12 : decode cX3_replace 12 = .ok (.aload_n 0, 1) := by decide +kernel
theorem dX3_replace_13 : decode cX3_replace 13 = .ok (.getfield 9, 3) := by decide +kernel
theorem dX3_replace_16 : decode cX3_replace 16 = .ok (.iload_n 1, 1) := by decide +kernel
theorem dX3_replace_17 : decode cX3_replace 17 = .ok (.iload_n 2, 1) := by decide +kernel
theorem dX3_replace_18 : decode cX3_replace 18 = .ok (.iastore, 1) := by decide +kernel
theorem dX3_replace_19 : decode cX3_replace 19 = .ok (.aload_n 0, 1) := by decide +kernel
theorem dX3_replace_20 : decode cX3_replace 20 = .ok (.getfield 15, 3) := by decide +kernel
theorem dX3_replace_23 : decode cX3_replace 23 = .ok (.iload_n 1, 1) := by decide +kernel
theorem dX3_replace_24 : decode cX3_replace 24 = .ok (.iload_n 3, 1) := by decide +kernel
theorem dX3_replace_25 : decode cX3_replace 25 = .ok (.iastore, 1) := by decide +kernel
theorem dX3_replace_26 : decode cX3_replace 26 = .ok (.return_, 1) := by decide +kernel
theorem dX3_remove_0 : decode cX3_remove 0 = .ok (.iload_n 1, 1) := by decide +kernel
theorem dX3_remove_1 : decode cX3_remove 1 = .ok (.ifCond .lt 11, 3) := by decide +kernel
theorem dX3_remove_4 : decode cX3_remove 4 = .ok (.iload_n 1, 1) := by decide +kernel
theorem dX3_remove_5 : decode cX3_remove 5 = .ok (.aload_n 0, 1) := by decide +kernel
theorem dX3_remove_6 : decode cX3_remove 6 = .ok (.getfield 18, 3) := by decide +kernel
theorem dX3_remove_9 : decode cX3_remove 9 = .ok (.if_icmp .lt 4, 3) := by decide +kernel
theorem dX3_remove_12 : decode cX3_remove 12 = .ok (.return_, 1) := by decide +kernel
theorem dX3_remove_13 : decode cX3_remove 13 = .ok (.iload_n 1, 1) := by decide +kernel
theorem dX3_remove_14 : decode cX3_remove 14 = .ok (.istore_n 2, 1) := by decide +kernel
theorem dX3_remove_15 : decode cX3_remove 15 = .ok (.iload_n 2, 1) := by decide +kernel
theorem dX3_remove_16 : decode cX3_remove 16 = .ok (.iconst 1, 1) := by decide +kernel
theorem dX3_remove_17 : decode cX3_remove 17 = .ok (.iadd, 1) := by decide +kernel
theorem dX3_remove_18 : decode cX3_remove 18 = .ok (.aload_n 0, 1) := by decide +kernel
theorem dX3_remove_19 : decode cX3_remove 19 = .ok (.getfield 18, 3) := by decide +kernel
theorem dX3_remove_22 : decode cX3_remove 22 = .ok (.if_icmp .ge 37, 3) := by decide +kernel
theorem dX3_remove_25 : decode cX3_remove 25 = .ok (.aload_n 0, 1) := by decide +kernel
theorem dX3_remove_26 : decode cX3_remove 26 = .ok (.getfield 9, 3) := by decide +kernel
theorem dX3_remove_29 : decode cX3_remove 29 = .ok (.iload_n 2, 1) := by decide +kernel
theorem dX3_remove_30 : decode cX3_remove 30 = .ok (.aload_n 0, 1) := by decide +kernel
theorem dX3_remove_31 : decode cX3_remove 31 = .ok (.getfield 9, 3) := by decide +kernel
theorem dX3_remove_34 : decode cX3_remove 34 = .ok (.iload_n 2, 1) := by decide +kernel
theorem dX3_remove_35 : decode cX3_remove 35 = .ok (.iconst 1, 1) := by decide +kernel
theorem dX3_remove_36 : decode cX3_remove 36 = .ok (.iadd, 1) := by decide +kernel
theorem dX3_remove_37 : decode cX3_remove 37 = .ok (.iaload, 1) := by decide +kernel
theorem dX3_remove_38 : decode cX3_remove 38 = .ok (.iastore, 1) := by decide +kernel
theorem dX3_remove_39 : decode cX3_remove 39 = .ok (.aload_n 0, 1) := by decide +kernel
theorem dX3_remove_40 : decode cX3_remove 40 = .ok (.getfield 15, 3) := by decide +kernel
theorem dX3_remove_43 : decode cX3_remove 43 = .ok (.iload_n 2, 1) := by decide +kernel
theorem dX3_remove_44 : decode cX3_remove 44 = .ok (.aload_n 0, 1) := by decide +kernel
theorem dX3_remove_45 : decode cX3_remove 45 = .ok (.getfield 15, 3) := by decide +kernel
theorem dX3_remove_48 : decode cX3_remove 48 = .ok (.iload_n 2, 1) := by decide +kernel
theorem dX3_remove_49 : decode cX3_remove 49 = .ok (.iconst 1, 1) := by decide +kernel
theorem dX3_remove_50 : decode cX3_remove 50 = .ok (.iadd, 1) := by decide +kernel
theorem dX3_remove_51 : decode cX3_remove 51 = .ok (.iaload, 1) := by decide +kernel
theorem dX3_remove_52 : decode cX3_remove 52 = .ok (.iastore, 1) := by decide +kernel
theorem dX3_remove_53 : decode cX3_remove 53 = .ok (.iinc 2 1, 3) := by decide +kernel
theorem dX3_remove_56 : decode cX3_remove 56 = .ok (.goto (-41), 3) := by decide +kernel
theorem dX3_remove_59 : decode cX3_remove 59 = .ok (.aload_n 0, 1) := by decide +kernel
theorem dX3_remove_60 : decode cX3_remove 60 = .ok (.dup, 1) := by decide +kernel
theorem dX3_remove_61 : decode cX3_remove 61 = .ok (.getfield 18, 3) := by decide +kernel
theorem dX3_remove_64 : decode cX3_remove 64 = .ok (.iconst 1, 1) := by decide +kernel
theorem dX3_remove_65 : decode cX3_remove 65 = .ok (.isub, 1) := by decide +kernel
theorem dX3_remove_66 : decode cX3_remove 66 = .ok (.putfield 18, 3) := by decide +kernel
theorem dX3_remove_69 : decode cX3_remove 69 = .ok (.return_, 1) := by decide +kernel
theorem dX3_empty_0 : decode cX3_empty 0 = .ok (.aload_n 0, 1) := by decide +kernel
theorem dX3_empty_1 : decode cX3_empty 1 = .ok (.iconst 0, 1) := by decide +kernel
theorem dX3_empty_2 : decode cX3_empty 2 = .ok (.putfield 18, 3) := by decide +kernel
theorem dX3_empty_5 : decode cX3_empty 5 = .ok (.return_, 1) := by decide +kernel
theorem dX3_copy_0 : decode cX3_copy 0 = .ok (.aload_n 0, 1) := by decide +kernel
theorem dX3_copy_1 : decode cX3_copy 1 = .ok (.aload_n 1, 1) := by decide +kernel
theorem dX3_copy_2 : decode cX3_copy 2 = .ok (.getfield 18, 3) := by decide +kernel
theorem dX3_copy_5 : decode cX3_copy 5 = .ok (.putfield 18, 3) := by decide +kernel
theorem dX3_copy_8 : decode cX3_copy 8 = .ok (.iconst 0, 1) := by decide +kernel
theorem dX3_copy_9 : decode cX3_copy 9 = .ok (.istore_n 2, 1) := by decide +kernel
theorem dX3_copy_10 : decode cX3_copy 10 = .ok (.iload_n 2, 1) := by decide +kernel
theorem dX3_copy_11 : decode cX3_copy 11 = .ok (.aload_n 0, 1) := by decide +kernel
theorem dX3_copy_12 : decode cX3_copy 12 = .ok (.getfield 18, 3) := by decide +kernel
theorem dX3_copy_15 : decode cX3_copy 15 = .ok (.if_icmp .ge 33, 3) := by decide +kernel
theorem dX3_copy_18 : decode cX3_copy 18 = .ok (.aload_n 0, 1) := by decide +kernel
theorem dX3_copy_19 : decode cX3_copy 19 = .ok (.getfield 9, 3) := by decide +kernel
theorem dX3_copy_22 : decode cX3_copy 22 = .ok (.iload_n 2, 1) := by decide +kernel
theorem dX3_copy_23 : decode cX3_copy 23 = .ok (.aload_n 1, 1) := by decide +kernel
theorem dX3_copy_24 : decode cX3_copy 24 = .ok (.getfield 9, 3) := by decide +kernel
theorem dX3_copy_27 : decode cX3_copy 27 = .ok (.iload_n 2, 1) := by decide +kernel
theorem dX3_copy_28 : decode cX3_copy 28 = .ok (.iaload, 1) := by decide +kernel
theorem dX3_copy_29 : decode cX3_copy 29 = .ok (.iastore, 1) := by decide +kernel
theorem dX3_copy_30 : decode cX3_copy 30 = .ok (.aload_n 0, 1) := by decide +kernel
theorem dX3_copy_31 : decode cX3_copy 31 = .ok (.getfield 15, 3) := by decide +kernel
theorem dX3_copy_34 : decode cX3_copy 34 = .ok (.iload_n 2, 1) := by decide +kernel
theorem dX3_copy_35 : decode cX3_copy 35 = .ok (.aload_n 1, 1) := by decide +kernel
theorem dX3_copy_36 : decode cX3_copy 36 = .ok (.getfield 15, 3) := by decide +kernel
theorem dX3_copy_39 : decode cX3_copy 39 = .ok (.iload_n 2, 1) := by decide +kernel
theorem dX3_copy_40 : decode cX3_copy 40 = .ok (.iaload, 1) := by decide +kernel
theorem dX3_copy_41 : decode cX3_copy 41 = .ok (.iastore, 1) := by decide +kernel
theorem dX3_copy_42 : decode cX3_copy 42 = .ok (.iinc 2 1, 3) := by decide +kernel
theorem dX3_copy_45 : decode cX3_copy 45 = .ok (.goto (-35), 3) := by decide +kernel
theorem dX3_copy_48 : decode cX3_copy 48 = .ok (.return_, 1) := by decide +kernel
theorem dX3_countUnknownTo_0 : decode cX3_countUnknownTo 0 = .ok (.iconst 0, 1) := by decide +kernel
theorem dX3_countUnknownTo_1 : decode cX3_countUnknownTo 1 = .ok (.istore_n 2, 1) := by decide +kernel
theorem dX3_countUnknownTo_2 : decode cX3_countUnknownTo 2 = .ok (.iconst 0, 1) := by decide +kernel
theorem dX3_countUnknownTo_3 : decode cX3_countUnknownTo 3 = .ok (.istore_n 3, 1) := by decide +kernel
theorem dX3_countUnknownTo_4 : decode cX3_countUnknownTo 4 = .ok (.iload_n 3, 1) := by decide +kernel
theorem dX3_countUnknownTo_5 : decode cX3_countUnknownTo 5 = .ok (.aload_n 0, 1) := by decide +kernel
theorem dX3_countUnknownTo_6 : decode cX3_countUnknownTo 6 = .ok (.getfield 18, 3) := by decide +kernel
theorem dX3_countUnknownTo_9 : decode cX3_countUnknownTo 9 = .ok (.if_icmp .ge 31, 3) := by decide +kernel
theorem dX3_countUnknownTo_12 : decode cX3_countUnknownTo 12 = .ok (.aload_n 1, 1) := by decide +kernel
theorem dX3_countUnknownTo_13 : decode cX3_countUnknownTo 13 = .ok (.aload_n 0, 1) := by decide +kernel
theorem dX3_countUnknownTo_14 : decode cX3_countUnknownTo 14 = .ok (.getfield 9, 3) := by decide +kernel
theorem dX3_countUnknownTo_17 : decode cX3_countUnknownTo 17 = .ok (.iload_n 3, 1) := by decide +kernel
theorem dX3_countUnknownTo_18 : decode cX3_countUnknownTo 18 = .ok (.iaload, 1) := by decide +kernel
theorem dX3_countUnknownTo_19 : decode cX3_countUnknownTo 19 = .ok (.aload_n 0, 1) := by decide +kernel
theorem dX3_countUnknownTo_20 : decode cX3_countUnknownTo 20 = .ok (.getfield 15, 3) := by decide +kernel
theorem dX3_countUnknownTo_23 : decode cX3_countUnknownTo 23 = .ok (.iload_n 3, 1) := by decide +kernel
theorem dX3_countUnknownTo_24 : decode cX3_countUnknownTo 24 = .ok (.iaload, 1) := by decide +kernel
theorem dX3_countUnknownTo_25 : decode cX3_countUnknownTo 25 = .ok (.invokevirtual 22, 3) := by decide +kernel
theorem dX3_countUnknownTo_28 : decode cX3_countUnknownTo 28 = .ok (.ifCond .ge 6, 3) := by decide +kernel
theorem dX3_countUnknownTo_31 : decode cX3_countUnknownTo 31 = .ok (.iinc 2 1, 3) := by decide +kernel
theorem dX3_countUnknownTo_34 : decode cX3_countUnknownTo 34 = .ok (.iinc 3 1, 3) := by decide +kernel
theorem dX3_countUnknownTo_37 : decode cX3_countUnknownTo 37 = .ok (.goto (-33), 3) := by decide +kernel
theorem dX3_countUnknownTo_40 : decode cX3_countUnknownTo 40 = .ok (.iload_n 2, 1) := by decide +kernel
theorem dX3_countUnknownTo_41 : decode cX3_countUnknownTo 41 = .ok (.ireturn, 1) := by decide +kernel
theorem dX3_lessen_0 : decode cX3_lessen 0 = .ok (.aload_n 0, 1) := by decide +kernel
theorem dX3_lessen_1 : decode cX3_lessen 1 = .ok (.getfield 18, 3) := by decide +kernel
theorem dX3_lessen_4 : decode cX3_lessen 4 = .ok (.istore_n 2, 1) := by decide +kernel
theorem dX3_lessen_5 : decode cX3_lessen 5 = .ok (.aload_n 0, 1) := by decide +kernel
theorem dX3_lessen_6 : decode cX3_lessen 6 = .ok (.iconst 0, 1) := by decide +kernel
theorem dX3_lessen_7 : decode cX3_lessen 7 = .ok (.putfield 18, 3) := by decide +kernel
theorem dX3_lessen_10 : decode cX3_lessen 10 = .ok (.iconst 0, 1) := by decide +kernel
theorem dX3_lessen_11 : decode cX3_lessen 11 = .ok (.istore_n 3, 1) := by decide +kernel
theorem dX3_lessen_12 : decode cX3_lessen 12 = .ok (.iload_n 3, 1) := by decide +kernel
theorem dX3_lessen_13 : decode cX3_lessen 13 = .ok (.iload_n 2, 1) := by decide +kernel
theorem dX3_lessen_14 : decode cX3_lessen 14 = .ok (.if_icmp .ge 37, 3) := by decide +kernel
theorem dX3_lessen_17 : decode cX3_lessen 17 = .ok (.aload_n 0, 1) := by decide +kernel
theorem dX3_lessen_18 : decode cX3_lessen 18 = .ok (.iconst 0, 1) := by decide +kernel
theorem dX3_lessen_19 : decode cX3_lessen 19 = .ok (.aload_n 0, 1) := by decide +kernel
theorem dX3_lessen_20 : decode cX3_lessen 20 = .ok (.getfield 9, 3) := by decide +kernel
theorem dX3_lessen_23 : decode cX3_lessen 23 = .ok (.iload_n 3, 1) := by decide +kernel
theorem dX3_lessen_24 : decode cX3_lessen 24 = .ok (.iaload, 1) := by decide +kernel
theorem dX3_lessen_25 : decode cX3_lessen 25 = .ok (.iload_n 1, 1) := by decide +kernel
theorem dX3_lessen_26 : decode cX3_lessen 26 = .ok (.isub, 1) := by decide +kernel
theorem dX3_lessen_27 : decode cX3_lessen 27 = .ok (.invokestatic 30, 3) := by decide +kernel
theorem dX3_lessen_30 : decode cX3_lessen 30 = .ok (.iconst 0, 1) := by decide +kernel
theorem dX3_lessen_31 : decode cX3_lessen 31 = .ok (.aload_n 0, 1) := by decide +kernel
theorem dX3_lessen_32 : decode cX3_lessen 32 = .ok (.getfield 15, 3) := by decide +kernel
theorem dX3_lessen_35 : decode cX3_lessen 35 = .ok (.iload_n 3, 1) := by decide +kernel
theorem dX3_lessen_36 : decode cX3_lessen 36 = .ok (.iaload, 1) := by decide +kernel
theorem dX3_lessen_37 : decode cX3_lessen 37 = .ok (.iload_n 1, 1) := by decide +kernel
theorem dX3_lessen_38 : decode cX3_lessen 38 = .ok (.isub, 1) := by decide +kernel
theorem dX3_lessen_39 : decode cX3_lessen 39 = .ok (.invokestatic 30, 3) := by decide +kernel
theorem dX3_lessen_42 : decode cX3_lessen 42 = .ok (.invokevirtual 35, 3) := by decide +kernel
theorem dX3_lessen_45 : decode cX3_lessen 45 = .ok (.iinc 3 1, 3) := by decide +kernel
theorem dX3_lessen_48 : decode cX3_lessen 48 = .ok (.goto (-36), 3) := by decide +kernel
theorem dX3_lessen_51 : decode cX3_lessen 51 = .ok (.return_, 1) := by decide +kernel
theorem dX3_contains_0 : decode cX3_contains 0 = .ok (.iconst 0, 1) := by decide +kernel
theorem dX3_contains_1 : decode cX3_contains 1 = .ok (.istore_n 3, 1) := by decide +kernel
theorem dX3_contains_2 : decode cX3_contains 2 = .ok (.iload_n 3, 1) := by decide +kernel
theorem dX3_contains_3 : decode cX3_contains 3 = .ok (.aload_n 0, 1) := by decide +kernel
theorem dX3_contains_4 : decode cX3_contains 4 = .ok (.getfield 18, 3) := by decide +kernel
theorem dX3_contains_7 : decode cX3_contains 7 = .ok (.if_icmp .ge 31, 3) := by decide +kernel
theorem dX3_contains_10 : decode cX3_contains 10 = .ok (.aload_n 0, 1) := by decide +kernel
theorem dX3_contains_11 : decode cX3_contains 11 = .ok (.getfield 9, 3) := by decide +kernel
theorem dX3_contains_14 : decode cX3_contains 14 = .ok (.iload_n 3, 1) := by decide +kernel
theorem dX3_contains_15 : decode cX3_contains 15 = .ok (.iaload, 1) := by decide +kernel
theorem dX3_contains_16 : decode cX3_contains 16 = .ok (.iload_n 1, 1) := by decide +kernel
theorem dX3_contains_17 : decode cX3_contains 17 = .ok (.if_icmp .gt 15, 3) := by decide +kernel
theorem dX3_contains_20 : decode cX3_contains 20 = .ok (.aload_n 0, 1) := by decide +kernel
theorem dX3_contains_21 : decode cX3_contains 21 = .ok (.getfield 15, 3) := by decide +kernel
theorem dX3_contains_24 : decode cX3_contains 24 = .ok (.iload_n 3, 1) := by decide +kernel
theorem dX3_contains_25 : decode cX3_contains 25 = .ok (.iaload, 1) := by decide +kernel
theorem dX3_contains_26 : decode cX3_contains 26 = .ok (.iload_n 2, 1) := by decide +kernel
theorem dX3_contains_27 : decode cX3_contains 27 = .ok (.if_icmp .gt 5, 3) := by decide +kernel
theorem dX3_contains_30 : decode cX3_contains 30 = .ok (.iconst 1, 1) := by decide +kernel
theorem dX3_contains_31 : decode cX3_contains 31 = .ok (.ireturn, 1) := by decide +kernel
theorem dX3_contains_32 : decode cX3_contains 32 = .ok (.iinc 3 1, 3) := by decide +kernel
theorem dX3_contains_35 : decode cX3_contains 35 = .ok (.goto (-33), 3) := by decide +kernel
theorem dX3_contains_38 : decode cX3_contains 38 = .ok (.iconst 0, 1) := by decide +kernel
theorem dX3_contains_39 : decode cX3_contains 39 = .ok (.ireturn, 1) := by decide +kernel
theorem dX3_isLeast_0 : decode cX3_isLeast 0 = .ok (.aload_n 0, 1) := by decide +kernel
theorem dX3_isLeast_1 : decode cX3_isLeast 1 = .ok (.iload_n 1, 1) := by decide +kernel
theorem dX3_isLeast_2 : decode cX3_isLeast 2 = .ok (.invokevirtual 38, 3) := by decide +kernel
theorem dX3_isLeast_5 : decode cX3_isLeast 5 = .ok (.istore_n 2, 1) := by decide +kernel
theorem dX3_isLeast_6 : decode cX3_isLeast 6 = .ok (.aload_n 0, 1) := by decide +kernel
theorem dX3_isLeast_7 : decode cX3_isLeast 7 = .ok (.iload_n 1, 1) := by decide +kernel
theorem dX3_isLeast_8 : decode cX3_isLeast 8 = .ok (.invokevirtual 42, 3) := by decide +kernel
theorem dX3_isLeast_11 : decode cX3_isLeast 11 = .ok (.istore_n 3, 1) := by decide +kernel
theorem dX3_isLeast_12 : decode cX3_isLeast 12 = .ok (.iconst 0, 1) := by decide +kernel
theorem dX3_isLeast_13 : decode cX3_isLeast 13 = .ok (.istore 4, 2) := by decide +kernel
theorem dX3_isLeast_15 : decode cX3_isLeast 15 = .ok (.iload 4, 2) := by decide +kernel
theorem dX3_isLeast_17 : decode cX3_isLeast 17 = .ok (.aload_n 0, 1) := by decide +kernel
theorem dX3_isLeast_18 : decode cX3_isLeast 18 = .ok (.getfield 18, 3) := by decide +kernel
theorem dX3_isLeast_21 : decode cX3_isLeast 21 = .ok (.if_icmp .ge 39, 3) := by decide +kernel
theorem dX3_isLeast_24 : decode cX3_isLeast 24 = .ok (.iload 4, 2) := by decide +kernel
theorem dX3_isLeast_26 : decode cX3_isLeast 26 = .ok (.iload_n 1, 1) := by decide +kernel
theorem dX3_isLeast_27 : decode cX3_isLeast 27 = .ok (.if_icmp .eq 27, 3) := by decide +kernel
theorem dX3_isLeast_30 : decode cX3_isLeast 30 = .ok (.aload_n 0, 1) := by decide +kernel
theorem dX3_isLeast_31 : decode cX3_isLeast 31 = .ok (.getfield 9, 3) := by decide +kernel
theorem dX3_isLeast_34 : decode cX3_isLeast 34 = .ok (.iload 4, 2) := by decide +kernel
theorem dX3_isLeast_36 : decode cX3_isLeast 36 = .ok (.iaload, 1) := by decide +kernel
theorem dX3_isLeast_37 : decode cX3_isLeast 37 = .ok (.iload_n 2, 1) := by decide +kernel
theorem dX3_isLeast_38 : decode cX3_isLeast 38 = .ok (.if_icmp .gt 16, 3) := by decide +kernel
theorem dX3_isLeast_41 : decode cX3_isLeast 41 = .ok (.aload_n 0, 1) := by decide +kernel
theorem dX3_isLeast_42 : decode cX3_isLeast 42 = .ok (.getfield 15, 3) := by decide +kernel
theorem dX3_isLeast_45 : decode cX3_isLeast 45 = .ok (.iload 4, 2) := by decide +kernel
theorem dX3_isLeast_47 : decode cX3_isLeast 47 = .ok (.iaload, 1) := by decide +kernel
theorem dX3_isLeast_48 : decode cX3_isLeast 48 = .ok (.iload_n 3, 1) := by decide +kernel
theorem dX3_isLeast_49 : decode cX3_isLeast 49 = .ok (.if_icmp .gt 5, 3) := by decide +kernel
theorem dX3_isLeast_52 : decode cX3_isLeast 52 = .ok (.iconst 0, 1) := by decide +kernel
theorem dX3_isLeast_53 : decode cX3_isLeast 53 = .ok (.ireturn, 1) := by decide +kernel
theorem dX3_isLeast_54 : decode cX3_isLeast 54 = .ok (.iinc 4 1, 3) := by decide +kernel
theorem dX3_isLeast_57 : decode cX3_isLeast 57 = .ok (.goto (-42), 3) := by decide +kernel
theorem dX3_isLeast_60 : decode cX3_isLeast 60 = .ok (.iconst 1, 1) := by decide +kernel
theorem dX3_isLeast_61 : decode cX3_isLeast 61 = .ok (.ireturn, 1) := by decide +kernel
theorem dX3_countLeast_0 : decode cX3_countLeast 0 = .ok (.iconst 0, 1) := by decide +kernel
theorem dX3_countLeast_1 : decode cX3_countLeast 1 = .ok (.istore_n 1, 1) := by decide +kernel
theorem dX3_countLeast_2 : decode cX3_countLeast 2 = .ok (.iconst 0, 1) := by decide +kernel
theorem dX3_countLeast_3 : decode cX3_countLeast 3 = .ok (.istore_n 2, 1) := by decide +kernel
theorem dX3_countLeast_4 : decode cX3_countLeast 4 = .ok (.iload_n 2, 1) := by decide +kernel
theorem dX3_countLeast_5 : decode cX3_countLeast 5 = .ok (.aload_n 0, 1) := by decide +kernel
theorem dX3_countLeast_6 : decode cX3_countLeast 6 = .ok (.getfield 18, 3) := by decide +kernel
theorem dX3_countLeast_9 : decode cX3_countLeast 9 = .ok (.if_icmp .ge 20, 3) := by decide +kernel
theorem dX3_countLeast_12 : decode cX3_countLeast 12 = .ok (.aload_n 0, 1) := by decide +kernel
theorem dX3_countLeast_13 : decode cX3_countLeast 13 = .ok (.iload_n 2, 1) := by decide +kernel
theorem dX3_countLeast_14 : decode cX3_countLeast 14 = .ok (.invokevirtual 45, 3) := by decide +kernel
theorem dX3_countLeast_17 : decode cX3_countLeast 17 = .ok (.ifCond .eq 6, 3) := by decide +kernel
theorem dX3_countLeast_20 : decode cX3_countLeast 20 = .ok (.iinc 1 1, 3) := by decide +kernel
theorem dX3_countLeast_23 : decode cX3_countLeast 23 = .ok (.iinc 2 1, 3) := by decide +kernel
theorem dX3_countLeast_26 : decode cX3_countLeast 26 = .ok (.goto (-22), 3) := by decide +kernel
theorem dX3_countLeast_29 : decode cX3_countLeast 29 = .ok (.iload_n 1, 1) := by decide +kernel
theorem dX3_countLeast_30 : decode cX3_countLeast 30 = .ok (.ireturn, 1) := by decide +kernel
theorem dX3_lowestB_0 : decode cX3_lowestB 0 = .ok (.bipush (-5), 2) := by decide +kernel
theorem dX3_lowestB_2 : decode cX3_lowestB 2 = .ok (.istore_n 2, 1) := by decide +kernel
theorem dX3_lowestB_3 : decode cX3_lowestB 3 = .ok (.iconst 0, 1) := by decide +kernel
theorem dX3_lowestB_4 : decode cX3_lowestB 4 = .ok (.istore_n 3, 1) := by decide +kernel
theorem dX3_lowestB_5 : decode cX3_lowestB 5 = .ok (.iload_n 3, 1) := by decide +kernel
theorem dX3_lowestB_6 : decode cX3_lowestB 6 = .ok (.aload_n 0, 1) := by decide +kernel
theorem dX3_lowestB_7 : decode cX3_lowestB 7 = .ok (.getfield 18, 3) := by decide +kernel
theorem dX3_lowestB_10 : decode cX3_lowestB 10 = .ok (.if_icmp .ge 30, 3) := by decide +kernel
theorem dX3_lowestB_13 : decode cX3_lowestB 13 = .ok (.aload_n 0, 1) := by decide +kernel
theorem dX3_lowestB_14 : decode cX3_lowestB 14 = .ok (.getfield 9, 3) := by decide +kernel
theorem dX3_lowestB_17 : decode cX3_lowestB 17 = .ok (.iload_n 3, 1) := by decide +kernel
theorem dX3_lowestB_18 : decode cX3_lowestB 18 = .ok (.iaload, 1) := by decide +kernel
theorem dX3_lowestB_19 : decode cX3_lowestB 19 = .ok (.iload_n 1, 1) := by decide +kernel
theorem dX3_lowestB_20 : decode cX3_lowestB 20 = .ok (.if_icmp .gt 14, 3) := by decide +kernel
theorem dX3_lowestB_23 : decode cX3_lowestB 23 = .ok (.iload_n 2, 1) := by decide +kernel
theorem dX3_lowestB_24 : decode cX3_lowestB 24 = .ok (.aload_n 0, 1) := by decide +kernel
theorem dX3_lowestB_25 : decode cX3_lowestB 25 = .ok (.getfield 15, 3) := by decide +kernel
theorem dX3_lowestB_28 : decode cX3_lowestB 28 = .ok (.iload_n 3, 1) := by decide +kernel
theorem dX3_lowestB_29 : decode cX3_lowestB 29 = .ok (.iaload, 1) := by decide +kernel
theorem dX3_lowestB_30 : decode cX3_lowestB 30 = .ok (.invokestatic 49, 3) := by decide +kernel
theorem dX3_lowestB_33 : decode cX3_lowestB 33 = .ok (.istore_n 2, 1) := by decide +kernel
theorem dX3_lowestB_34 : decode cX3_lowestB 34 = .ok (.iinc 3 1, 3) := by decide +kernel
theorem dX3_lowestB_37 : decode cX3_lowestB 37 = .ok (.goto (-32), 3) := by decide +kernel
theorem dX3_lowestB_40 : decode cX3_lowestB 40 = .ok (.iload_n 2, 1) := by decide +kernel
theorem dX3_lowestB_41 : decode cX3_lowestB 41 = .ok (.ireturn, 1) := by decide +kernel
theorem dX3_sumOfPowers_0 : decode cX3_sumOfPowers 0 = .ok (.iconst 0, 1) := by decide +kernel
theorem dX3_sumOfPowers_1 : decode cX3_sumOfPowers 1 = .ok (.istore_n 1, 1) := by decide +kernel
theorem dX3_sumOfPowers_2 : decode cX3_sumOfPowers 2 = .ok (.iconst 0, 1) := by decide +kernel
theorem dX3_sumOfPowers_3 : decode cX3_sumOfPowers 3 = .ok (.istore_n 2, 1) := by decide +kernel
theorem dX3_sumOfPowers_4 : decode cX3_sumOfPowers 4 = .ok (.iload_n 2, 1) := by decide +kernel
theorem dX3_sumOfPowers_5 : decode cX3_sumOfPowers 5 = .ok (.aload_n 0, 1) := by decide +kernel
theorem dX3_sumOfPowers_6 : decode cX3_sumOfPowers 6 = .ok (.getfield 18, 3) := by decide +kernel
theorem dX3_sumOfPowers_9 : decode cX3_sumOfPowers 9 = .ok (.if_icmp .ge 25, 3) := by decide +kernel
theorem dX3_sumOfPowers_12 : decode cX3_sumOfPowers 12 = .ok (.iload_n 1, 1) := by decide +kernel
theorem dX3_sumOfPowers_13 : decode cX3_sumOfPowers 13 = .ok (.aload_n 0, 1) := by decide +kernel
theorem dX3_sumOfPowers_14 : decode cX3_sumOfPowers 14 = .ok (.getfield 9, 3) := by decide +kernel
theorem dX3_sumOfPowers_17 : decode cX3_sumOfPowers 17 = .ok (.iload_n 2, 1) := by decide +kernel
theorem dX3_sumOfPowers_18 : decode cX3_sumOfPowers 18 = .ok (.iaload, 1) := by decide +kernel
theorem dX3_sumOfPowers_19 : decode cX3_sumOfPowers 19 = .ok (.aload_n 0, 1) := by decide +kernel
theorem dX3_sumOfPowers_20 : decode cX3_sumOfPowers 20 = .ok (.getfield 15, 3) := by decide +kernel
theorem dX3_sumOfPowers_23 : decode cX3_sumOfPowers 23 = .ok (.iload_n 2, 1) := by decide +kernel
theorem dX3_sumOfPowers_24 : decode cX3_sumOfPowers 24 = .ok (.iaload, 1) := by decide +kernel
theorem dX3_sumOfPowers_25 : decode cX3_sumOfPowers 25 = .ok (.iadd, 1) := by decide +kernel
theorem dX3_sumOfPowers_26 : decode cX3_sumOfPowers 26 = .ok (.iadd, 1) := by decide +kernel
theorem dX3_sumOfPowers_27 : decode cX3_sumOfPowers 27 = .ok (.istore_n 1, 1) := by decide +kernel
theorem dX3_sumOfPowers_28 : decode cX3_sumOfPowers 28 = .ok (.iinc 2 1, 3) := by decide +kernel
theorem dX3_sumOfPowers_31 : decode cX3_sumOfPowers 31 = .ok (.goto (-27), 3) := by decide +kernel
theorem dX3_sumOfPowers_34 : decode cX3_sumOfPowers 34 = .ok (.iload_n 1, 1) := by decide +kernel
theorem dX3_sumOfPowers_35 : decode cX3_sumOfPowers 35 = .ok (.ireturn, 1) := by decide +kernel
theorem dX3_leastWeight_0 : decode cX3_leastWeight 0 = .ok (.ldc 54, 2) := by decide +kernel
theorem dX3_leastWeight_2 : decode cX3_leastWeight 2 = .ok (.istore_n 3, 1) := by decide +kernel
theorem dX3_leastWeight_3 : decode cX3_leastWeight 3 = .ok (.iconst 0, 1) := by decide +kernel
theorem dX3_leastWeight_4 : decode cX3_leastWeight 4 = .ok (.istore 4, 2) := by decide +kernel
theorem dX3_leastWeight_6 : decode cX3_leastWeight 6 = .ok (.iload 4, 2) := by decide +kernel
theorem dX3_leastWeight_8 : decode cX3_leastWeight 8 = .ok (.aload_n 0, 1) := by decide +kernel
theorem dX3_leastWeight_9 : decode cX3_leastWeight 9 = .ok (.getfield 18, 3) := by decide +kernel
theorem dX3_leastWeight_12 : decode cX3_leastWeight 12 = .ok (.if_icmp .ge 33, 3) := by decide +kernel
theorem dX3_leastWeight_15 : decode cX3_leastWeight 15 = .ok (.iload_n 3, 1) := by decide +kernel
theorem dX3_leastWeight_16 : decode cX3_leastWeight 16 = .ok (.iload_n 1, 1) := by decide +kernel
theorem dX3_leastWeight_17 : decode cX3_leastWeight 17 = .ok (.aload_n 0, 1) := by decide +kernel
theorem dX3_leastWeight_18 : decode cX3_leastWeight 18 = .ok (.getfield 9, 3) := by decide +kernel
theorem dX3_leastWeight_21 : decode cX3_leastWeight 21 = .ok (.iload 4, 2) := by decide +kernel
theorem dX3_leastWeight_23 : decode cX3_leastWeight 23 = .ok (.iaload, 1) := by decide +kernel
theorem dX3_leastWeight_24 : decode cX3_leastWeight 24 = .ok (.imul, 1) := by decide +kernel
theorem dX3_leastWeight_25 : decode cX3_leastWeight 25 = .ok (.iload_n 2, 1) := by decide +kernel
theorem dX3_leastWeight_26 : decode cX3_leastWeight 26 = .ok (.aload_n 0, 1) := by decide +kernel
theorem dX3_leastWeight_27 : decode cX3_leastWeight 27 = .ok (.getfield 15, 3) := by decide +kernel
theorem dX3_leastWeight_30 : decode cX3_leastWeight 30 = .ok (.iload 4, 2) := by decide +kernel
theorem dX3_leastWeight_32 : decode cX3_leastWeight 32 = .ok (.iaload, 1) := by decide +kernel
theorem dX3_leastWeight_33 : decode cX3_leastWeight 33 = .ok (.imul, 1) := by decide +kernel
theorem dX3_leastWeight_34 : decode cX3_leastWeight 34 = .ok (.iadd, 1) := by decide +kernel
theorem dX3_leastWeight_35 : decode cX3_leastWeight 35 = .ok (.invokestatic 55, 3) := by decide +kernel
theorem dX3_leastWeight_38 : decode cX3_leastWeight 38 = .ok (.istore_n 3, 1) := by decide +kernel
theorem dX3_leastWeight_39 : decode cX3_leastWeight 39 = .ok (.iinc 4 1, 3) := by decide +kernel
theorem dX3_leastWeight_42 : decode cX3_leastWeight 42 = .ok (.goto (-36), 3) := by decide +kernel
theorem dX3_leastWeight_45 : decode cX3_leastWeight 45 = .ok (.iload_n 3, 1) := by decide +kernel
theorem dX3_leastWeight_46 : decode cX3_leastWeight 46 = .ok (.ireturn, 1) := by decide +kernel
theorem dX3_countOfWeight_0 : decode cX3_countOfWeight 0 = .ok (.iconst 0, 1) := by decide +kernel
theorem dX3_countOfWeight_1 : decode cX3_countOfWeight 1 = .ok (.istore 4, 2) := by decide +kernel
theorem dX3_countOfWeight_3 : decode cX3_countOfWeight 3 = .ok (.iconst 0, 1) := by decide +kernel
theorem dX3_countOfWeight_4 : decode cX3_countOfWeight 4 = .ok (.istore 5, 2) := by decide +kernel
theorem dX3_countOfWeight_6 : decode cX3_countOfWeight 6 = .ok (.iload 5, 2) := by decide +kernel
theorem dX3_countOfWeight_8 : decode cX3_countOfWeight 8 = .ok (.aload_n 0, 1) := by decide +kernel
theorem dX3_countOfWeight_9 : decode cX3_countOfWeight 9 = .ok (.getfield 18, 3) := by decide +kernel
theorem dX3_countOfWeight_12 : decode cX3_countOfWeight 12 = .ok (.if_icmp .ge 35, 3) := by decide +kernel
theorem dX3_countOfWeight_15 : decode cX3_countOfWeight 15 = .ok (.iload_n 1, 1) := by decide +kernel
theorem dX3_countOfWeight_16 : decode cX3_countOfWeight 16 = .ok (.aload_n 0, 1) := by decide +kernel
theorem dX3_countOfWeight_17 : decode cX3_countOfWeight 17 = .ok (.getfield 9, 3) := by decide +kernel
theorem dX3_countOfWeight_20 : decode cX3_countOfWeight 20 = .ok (.iload 5, 2) := by decide +kernel
theorem dX3_countOfWeight_22 : decode cX3_countOfWeight 22 = .ok (.iaload, 1) := by decide +kernel
theorem dX3_countOfWeight_23 : decode cX3_countOfWeight 23 = .ok (.imul, 1) := by decide +kernel
theorem dX3_countOfWeight_24 : decode cX3_countOfWeight 24 = .ok (.iload_n 2, 1) := by decide +kernel
theorem dX3_countOfWeight_25 : decode cX3_countOfWeight 25 = .ok (.aload_n 0, 1) := by decide +kernel
theorem dX3_countOfWeight_26 : decode cX3_countOfWeight 26 = .ok (.getfield 15, 3) := by decide +kernel
theorem dX3_countOfWeight_29 : decode cX3_countOfWeight 29 = .ok (.iload 5, 2) := by decide +kernel
theorem dX3_countOfWeight_31 : decode cX3_countOfWeight 31 = .ok (.iaload, 1) := by decide +kernel
theorem dX3_countOfWeight_32 : decode cX3_countOfWeight 32 = .ok (.imul, 1) := by decide +kernel
theorem dX3_countOfWeight_33 : decode cX3_countOfWeight 33 = .ok (.iadd, 1) := by decide +kernel
theorem dX3_countOfWeight_34 : decode cX3_countOfWeight 34 = .ok (.iload_n 3, 1) := by decide +kernel
theorem dX3_countOfWeight_35 : decode cX3_countOfWeight 35 = .ok (.if_icmp .ne 6, 3) := by decide +kernel
theorem dX3_countOfWeight_38 : decode cX3_countOfWeight 38 = .ok (.iinc 4 1, 3) := by decide +kernel
theorem dX3_countOfWeight_41 : decode cX3_countOfWeight 41 = .ok (.iinc 5 1, 3) := by decide +kernel
theorem dX3_countOfWeight_44 : decode cX3_countOfWeight 44 = .ok (.goto (-38), 3) := by decide +kernel
theorem dX3_countOfWeight_47 : decode cX3_countOfWeight 47 = .ok (.iload 4, 2) := by decide +kernel
theorem dX3_countOfWeight_49 : decode cX3_countOfWeight 49 = .ok (.ireturn, 1) := by decide +kernel
theorem dX4_init_0 : decode cX4_init 0 = .ok (.aload_n 0, 1) := by decide +kernel
theorem dX4_init_1 : decode cX4_init 1 = .ok (.invokespecial 3, 3) := by decide +kernel
theorem dX4_init_4 : decode cX4_init 4 = .ok (.aload_n 0, 1) := by decide +kernel
theorem dX4_init_5 : decode cX4_init 5 = .ok (.bipush 100, 2) := by decide +kernel
theorem dX4_init_7 : decode cX4_init 7 = .ok (.newarray .int, 2) := by decide +kernel
theorem dX4_init_9 : decode cX4_init 9 = .ok (.putfield 9, 3) := by decide +kernel
theorem dX4_init_12 : decode cX4_init 12 = .ok (.aload_n 0, 1) := by decide +kernel
theorem dX4_init_13 : decode cX4_init 13 = .ok (.bipush 100, 2) := by decide +kernel
theorem dX4_init_15 : decode cX4_init 15 = .ok (.newarray .int, 2) := by decide +kernel
theorem dX4_init_17 : decode cX4_init 17 = .ok (.putfield 15, 3) := by decide +kernel
theorem dX4_init_20 : decode cX4_init 20 = .ok (.aload_n 0, 1) := by decide +kernel
theorem dX4_init_21 : decode cX4_init 21 = .ok (.iconst 0, 1) := by decide +kernel
theorem dX4_init_22 : decode cX4_init 22 = .ok (.putfield 18, 3) := by decide +kernel
theorem dX4_init_25 : decode cX4_init 25 = .ok (.return_, 1) := by decide +kernel
theorem dX4_gather_0 : decode cX4_gather 0 = .ok (.aload_n 0, 1) := by decide +kernel
theorem dX4_gather_1 : decode cX4_gather 1 = .ok (.iconst 0, 1) := by decide +kernel
theorem dX4_gather_2 : decode cX4_gather 2 = .ok (.putfield 18, 3) := by decide +kernel
theorem dX4_gather_5 : decode cX4_gather 5 = .ok (.iconst 0, 1) := by decide +kernel
theorem dX4_gather_6 : decode cX4_gather 6 = .ok (.istore_n 2, 1) := by decide +kernel
theorem dX4_gather_7 : decode cX4_gather 7 = .ok (.iload_n 2, 1) := by decide +kernel
theorem dX4_gather_8 : decode cX4_gather 8 = .ok (.bipush 9, 2) := by decide +kernel
theorem dX4_gather_10 : decode cX4_gather 10 = .ok (.if_icmp .gt 58, 3) := by decide +kernel
theorem dX4_gather_13 : decode cX4_gather 13 = .ok (.iconst 0, 1) := by decide +kernel
theorem dX4_gather_14 : decode cX4_gather 14 = .ok (.istore_n 3, 1) := by decide +kernel
theorem dX4_gather_15 : decode cX4_gather 15 = .ok (.iload_n 3, 1) := by decide +kernel
theorem dX4_gather_16 : decode cX4_gather 16 = .ok (.bipush 9, 2) := by decide +kernel
theorem dX4_gather_18 : decode cX4_gather 18 = .ok (.if_icmp .gt 44, 3) := by decide +kernel
theorem dX4_gather_21 : decode cX4_gather 21 = .ok (.aload_n 1, 1) := by decide +kernel
theorem dX4_gather_22 : decode cX4_gather 22 = .ok (.iload_n 2, 1) := by decide +kernel
theorem dX4_gather_23 : decode cX4_gather 23 = .ok (.iload_n 3, 1) := by decide +kernel
theorem dX4_gather_24 : decode cX4_gather 24 = .ok (.invokevirtual 22, 3) := by decide +kernel
theorem dX4_gather_27 : decode cX4_gather 27 = .ok (.istore 4, 2) := by decide +kernel
theorem dX4_gather_29 : decode cX4_gather 29 = .ok (.iload 4, 2) := by decide +kernel
theorem dX4_gather_31 : decode cX4_gather 31 = .ok (.ifCond .lt 25, 3) := by decide +kernel
theorem dX4_gather_34 : decode cX4_gather 34 = .ok (.aload_n 0, 1) := by decide +kernel
theorem dX4_gather_35 : decode cX4_gather 35 = .ok (.aload_n 1, 1) := by decide +kernel
theorem dX4_gather_36 : decode cX4_gather 36 = .ok (.iload 4, 2) := by decide +kernel
theorem dX4_gather_38 : decode cX4_gather 38 = .ok (.iload_n 2, 1) := by decide +kernel
theorem dX4_gather_39 : decode cX4_gather 39 = .ok (.iconst 1, 1) := by decide +kernel
theorem dX4_gather_40 : decode cX4_gather 40 = .ok (.iadd, 1) := by decide +kernel
theorem dX4_gather_41 : decode cX4_gather 41 = .ok (.iload_n 3, 1) := by decide +kernel
theorem dX4_gather_42 : decode cX4_gather 42 = .ok (.iconst 1, 1) := by decide +kernel
theorem dX4_gather_43 : decode cX4_gather 43 = .ok (.iadd, 1) := by decide +kernel
theorem dX4_gather_44 : decode cX4_gather 44 = .ok (.invokevirtual 28, 3) := by decide +kernel
theorem dX4_gather_47 : decode cX4_gather 47 = .ok (.aload_n 1, 1) := by decide +kernel
theorem dX4_gather_48 : decode cX4_gather 48 = .ok (.iload 4, 2) := by decide +kernel
theorem dX4_gather_50 : decode cX4_gather 50 = .ok (.invokevirtual 32, 3) := by decide +kernel
theorem dX4_gather_53 : decode cX4_gather 53 = .ok (.invokevirtual 36, 3) := by decide +kernel
theorem dX4_gather_56 : decode cX4_gather 56 = .ok (.iinc 3 1, 3) := by decide +kernel
theorem dX4_gather_59 : decode cX4_gather 59 = .ok (.goto (-44), 3) := by decide +kernel
theorem dX4_gather_62 : decode cX4_gather 62 = .ok (.iinc 2 1, 3) := by decide +kernel
theorem dX4_gather_65 : decode cX4_gather 65 = .ok (.goto (-58), 3) := by decide +kernel
theorem dX4_gather_68 : decode cX4_gather 68 = .ok (.return_, 1) := by decide +kernel
theorem dX4_insert_0 : decode cX4_insert 0 = .ok (.iconst 0, 1) := by decide +kernel
theorem dX4_insert_1 : decode cX4_insert 1 = .ok (.istore_n 3, 1) := by decide +kernel
theorem dX4_insert_2 : decode cX4_insert 2 = .ok (.aload_n 0, 1) := by decide +kernel
theorem dX4_insert_3 : decode cX4_insert 3 = .ok (.getfield 18, 3) := by decide +kernel
theorem dX4_insert_6 : decode cX4_insert 6 = .ok (.istore 4, 2) := by decide +kernel
theorem dX4_insert_8 : decode cX4_insert 8 = .ok (.iconst 0, 1) := by decide +kernel
theorem dX4_insert_9 : decode cX4_insert 9 = .ok (.istore 5, 2) := by decide +kernel
theorem dX4_insert_11 : decode cX4_insert 11 = .ok (.iload 5, 2) := by decide +kernel
theorem dX4_insert_13 : decode cX4_insert 13 = .ok (.bipush 8, 2) := by decide +kernel
theorem dX4_insert_15 : decode cX4_insert 15 = .ok (.if_icmp .ge 56, 3) := by decide +kernel
theorem dX4_insert_18 : decode cX4_insert 18 = .ok (.iload_n 3, 1) := by decide +kernel
theorem dX4_insert_19 : decode cX4_insert 19 = .ok (.iload 4, 2) := by decide +kernel
theorem dX4_insert_21 : decode cX4_insert 21 = .ok (.if_icmp .ge 50, 3) := by decide +kernel
theorem dX4_insert_24 : decode cX4_insert 24 = .ok (.iload_n 3, 1) := by decide +kernel
theorem dX4_insert_25 : decode cX4_insert 25 = .ok (.iload 4, 2) := by decide +kernel
theorem dX4_insert_27 : decode cX4_insert 27 = .ok (.iadd, 1) := by decide +kernel
theorem dX4_insert_28 : decode cX4_insert 28 = .ok (.iconst 2, 1) := by decide +kernel
theorem dX4_insert_29 : decode cX4_insert 29 = .ok (.idiv, 1) := by decide +kernel
theorem dX4_insert_30 : decode cX4_insert 30 = .ok (.istore 6, 2) := by decide +kernel
theorem dX4_insert_32 : decode cX4_insert 32 = .ok (.aload_n 0, 1) := by decide +kernel
theorem dX4_insert_33 : decode cX4_insert 33 = .ok (.iload 6, 2) := by decide +kernel
theorem dX4_insert_35 : decode cX4_insert 35 = .ok (.iload_n 1, 1) := by decide +kernel
theorem dX4_insert_36 : decode cX4_insert 36 = .ok (.iload_n 2, 1) := by decide +kernel
theorem dX4_insert_37 : decode cX4_insert 37 = .ok (.invokevirtual 40, 3) := by decide +kernel
theorem dX4_insert_40 : decode cX4_insert 40 = .ok (.istore 7, 2) := by decide +kernel
theorem dX4_insert_42 : decode cX4_insert 42 = .ok (.iload 7, 2) := by decide +kernel
theorem dX4_insert_44 : decode cX4_insert 44 = .ok (.ifCond .ne 4, 3) := by decide +kernel
theorem dX4_insert_47 : decode cX4_insert 47 = .ok (.return_, 1) := by decide +kernel
theorem dX4_insert_48 : decode cX4_insert 48 = .ok (.iload 7, 2) := by decide +kernel
theorem dX4_insert_50 : decode cX4_insert 50 = .ok (.ifCond .ge 11, 3) := by decide +kernel
theorem dX4_insert_53 : decode cX4_insert 53 = .ok (.iload 6, 2) := by decide +kernel
theorem dX4_insert_55 : decode cX4_insert 55 = .ok (.iconst 1, 1) := by decide +kernel
theorem dX4_insert_56 : decode cX4_insert 56 = .ok (.iadd, 1) := by decide +kernel
theorem dX4_insert_57 : decode cX4_insert 57 = .ok (.istore_n 3, 1) := by decide +kernel
theorem dX4_insert_58 : decode cX4_insert 58 = .ok (.goto 7, 3) := by decide +kernel
theorem dX4_insert_61 : decode cX4_insert 61 = .ok (.iload 6, 2) := by decide +kernel
theorem dX4_insert_63 : decode cX4_insert 63 = .ok (.istore 4, 2) := by decide +kernel
theorem dX4_insert_65 : decode cX4_insert 65 = .ok (.iinc 5 1, 3) := by decide +kernel
theorem dX4_insert_68 : decode cX4_insert 68 = .ok (.goto (-57), 3) := by decide +kernel
theorem dX4_insert_71 : decode cX4_insert 71 = .ok (.aload_n 0, 1) := by decide +kernel
theorem dX4_insert_72 : decode cX4_insert 72 = .ok (.iload_n 3, 1) := by decide +kernel
theorem dX4_insert_73 : decode cX4_insert 73 = .ok (.iload_n 1, 1) := by decide +kernel
theorem dX4_insert_74 : decode cX4_insert 74 = .ok (.iload_n 2, 1) := by decide +kernel
theorem dX4_insert_75 : decode cX4_insert 75 = .ok (.invokevirtual 43, 3) := by decide +kernel
theorem dX4_insert_78 : decode cX4_insert 78 = .ok (.return_, 1) := by decide +kernel
theorem dX4_insertAt_0 : decode cX4_insertAt 0 = .ok (.iload_n 1, 1) := by decide +kernel
theorem dX4_insertAt_1 : decode cX4_insertAt 1 = .ok (.ifCond .lt 20, 3) := by decide +kernel
theorem dX4_insertAt_4 : decode cX4_insertAt 4 = .ok (.iload_n 1, 1) := by decide +kernel
theorem dX4_insertAt_5 : decode cX4_insertAt 5 = .ok (.aload_n 0, 1) := by decide +kernel
theorem dX4_insertAt_6 : decode cX4_insertAt 6 = .ok (.getfield 18, 3) := by decide +kernel
theorem dX4_insertAt_9 : decode cX4_insertAt 9 = .ok (.if_icmp .gt 12, 3) := by decide +kernel
theorem dX4_insertAt_12 : decode cX4_insertAt 12 = .ok (.aload_n 0, 1) := by decide +kernel
theorem dX4_insertAt_13 : decode cX4_insertAt 13 = .ok (.getfield 18, 3) := by decide +kernel
theorem dX4_insertAt_16 : decode cX4_insertAt 16 = .ok (.bipush 100, 2) := by decide +kernel
theorem dX4_insertAt_18 : decode cX4_insertAt 18 = .ok (.if_icmp .lt 4, 3) := by decide +kernel
theorem dX4_insertAt_21 : decode cX4_insertAt 21 = .ok (.return_, 1) := by decide +kernel
theorem dX4_insertAt_22 : decode cX4_insertAt 22 = .ok (.aload_n 0, 1) := by decide +kernel
theorem dX4_insertAt_23 : decode cX4_insertAt 23 = .ok (.getfield 9, 3) := by decide +kernel
theorem dX4_insertAt_26 : decode cX4_insertAt 26 = .ok (.iload_n 1, 1) := by decide +kernel
theorem dX4_insertAt_27 : decode cX4_insertAt 27 = .ok (.aload_n 0, 1) := by decide +kernel
theorem dX4_insertAt_28 : decode cX4_insertAt 28 = .ok (.getfield 9, 3) := by decide +kernel
theorem dX4_insertAt_31 : decode cX4_insertAt 31 = .ok (.iload_n 1, 1) := by decide +kernel
theorem dX4_insertAt_32 : decode cX4_insertAt 32 = .ok (.iconst 1, 1) := by decide +kernel
theorem dX4_insertAt_33 : decode cX4_insertAt 33 = .ok (.iadd, 1) := by decide +kernel
theorem dX4_insertAt_34 : decode cX4_insertAt 34 = .ok (.aload_n 0, 1) := by decide +kernel
theorem dX4_insertAt_35 : decode cX4_insertAt 35 = .ok (.getfield 18, 3) := by decide +kernel
theorem dX4_insertAt_38 : decode cX4_insertAt 38 = .ok (.iload_n 1, 1) := by decide +kernel
theorem dX4_insertAt_39 : decode cX4_insertAt 39 = .ok (.isub, 1) := by decide +kernel
theorem dX4_insertAt_40 : decode cX4_insertAt 40 = .ok (.invokestatic 47, 3) := by decide +kernel
theorem dX4_insertAt_43 : decode cX4_insertAt 43 = .ok (.aload_n 0, 1) := by decide +kernel
theorem dX4_insertAt_44 : decode cX4_insertAt 44 = .ok (.getfield 15, 3) := by decide +kernel
theorem dX4_insertAt_47 : decode cX4_insertAt 47 = .ok (.iload_n 1, 1) := by decide +kernel
theorem dX4_insertAt_48 : decode cX4_insertAt 48 = .ok (.aload_n 0, 1) := by decide +kernel
theorem dX4_insertAt_49 : decode cX4_insertAt 49 = .ok (.getfield 15, 3) := by decide +kernel
theorem dX4_insertAt_52 : decode cX4_insertAt 52 = .ok (.iload_n 1, 1) := by decide +kernel
theorem dX4_insertAt_53 : decode cX4_insertAt 53 = .ok (.iconst 1, 1) := by decide +kernel
theorem dX4_insertAt_54 : decode cX4_insertAt 54 = .ok (.iadd, 1) := by decide +kernel
theorem dX4_insertAt_55 : decode cX4_insertAt 55 = .ok (.aload_n 0, 1) := by decide +kernel
theorem dX4_insertAt_56 : decode cX4_insertAt 56 = .ok (.getfield 18, 3) := by decide +kernel
theorem dX4_insertAt_59 : decode cX4_insertAt 59 = .ok (.iload_n 1, 1) := by decide +kernel
theorem dX4_insertAt_60 : decode cX4_insertAt 60 = .ok (.isub, 1) := by decide +kernel
theorem dX4_insertAt_61 : decode cX4_insertAt 61 = .ok (.invokestatic 47, 3) := by decide +kernel
theorem dX4_insertAt_64 : decode cX4_insertAt 64 = .ok (.aload_n 0, 1) := by decide +kernel
theorem dX4_insertAt_65 : decode cX4_insertAt 65 = .ok (.getfield 9, 3) := by decide +kernel
theorem dX4_insertAt_68 : decode cX4_insertAt 68 = .ok (.iload_n 1, 1) := by decide +kernel
theorem dX4_insertAt_69 : decode cX4_insertAt 69 = .ok (.iload_n 2, 1) := by decide +kernel
theorem dX4_insertAt_70 : decode cX4_insertAt 70 = .ok (.iastore, 1) := by decide +kernel
theorem dX4_insertAt_71 : decode cX4_insertAt 71 = .ok (.aload_n 0, 1) := by decide +kernel
theorem dX4_insertAt_72 : decode cX4_insertAt 72 = .ok (.getfield 15, 3) := by decide +kernel
theorem dX4_insertAt_75 : decode cX4_insertAt 75 = .ok (.iload_n 1, 1) := by decide +kernel
theorem dX4_insertAt_76 : decode cX4_insertAt 76 = .ok (.iload_n 3, 1) := by decide +kernel
theorem dX4_insertAt_77 : decode cX4_insertAt 77 = .ok (.iastore, 1) := by decide +kernel
theorem dX4_insertAt_78 : decode cX4_insertAt 78 = .ok (.aload_n 0, 1) := by decide +kernel
theorem dX4_insertAt_79 : decode cX4_insertAt 79 = .ok (.dup, 1) := by decide +kernel
theorem dX4_insertAt_80 : decode cX4_insertAt 80 = .ok (.getfield 18, 3) := by decide +kernel
theorem dX4_insertAt_83 : decode cX4_insertAt 83 = .ok (.iconst 1, 1) := by decide +kernel
theorem dX4_insertAt_84 : decode cX4_insertAt 84 = .ok (.iadd, 1) := by decide +kernel
theorem dX4_insertAt_85 : decode cX4_insertAt 85 = .ok (.putfield 18, 3) := by decide +kernel
theorem dX4_insertAt_88 : decode cX4_insertAt 88 = .ok (.return_, 1) := by decide +kernel
theorem dX4_size_0 : decode cX4_size 0 = .ok (.aload_n 0, 1) := by decide +kernel
theorem dX4_size_1 : decode cX4_size 1 = .ok (.getfield 18, 3) := by decide +kernel
theorem dX4_size_4 : decode cX4_size 4 = .ok (.ireturn, 1) := by decide +kernel
theorem dX4_above_0 : decode cX4_above 0 = .ok (.iload_n 1, 1) := by decide +kernel
theorem dX4_above_1 : decode cX4_above 1 = .ok (.ifCond .lt 20, 3) := by decide +kernel
theorem dX4_above_4 : decode cX4_above 4 = .ok (.iload_n 1, 1) := by decide +kernel
theorem dX4_above_5 : decode cX4_above 5 = .ok (.aload_n 0, 1) := by decide +kernel
theorem dX4_above_6 : decode cX4_above 6 = .ok (.getfield 18, 3) := by decide +kernel
theorem dX4_above_9 : decode cX4_above 9 = .ok (.if_icmp .ge 12, 3) := by decide +kernel
theorem dX4_above_12 : decode cX4_above 12 = .ok (.aload_n 0, 1) := by decide +kernel
theorem dX4_above_13 : decode cX4_above 13 = .ok (.getfield 9, 3) := by decide +kernel
theorem dX4_above_16 : decode cX4_above 16 = .ok (.iload_n 1, 1) := by decide +kernel
theorem dX4_above_17 : decode cX4_above 17 = .ok (.iaload, 1) := by decide +kernel
theorem dX4_above_18 : decode cX4_above 18 = .ok (.goto 4, 3) := by decide +kernel
theorem dX4_above_21 : decode cX4_above 21 = .ok (.iconst 0, 1) := by decide +kernel
theorem dX4_above_22 : decode cX4_above 22 = .ok (.ireturn, 1) := by decide +kernel
theorem dX4_below_0 : decode cX4_below 0 = .ok (.iload_n 1, 1) := by decide +kernel
theorem dX4_below_1 : decode cX4_below 1 = .ok (.ifCond .lt 20, 3) := by decide +kernel
theorem dX4_below_4 : decode cX4_below 4 = .ok (.iload_n 1, 1) := by decide +kernel
theorem dX4_below_5 : decode cX4_below 5 = .ok (.aload_n 0, 1) := by decide +kernel
theorem dX4_below_6 : decode cX4_below 6 = .ok (.getfield 18, 3) := by decide +kernel
theorem dX4_below_9 : decode cX4_below 9 = .ok (.if_icmp .ge 12, 3) := by decide +kernel
theorem dX4_below_12 : decode cX4_below 12 = .ok (.aload_n 0, 1) := by decide +kernel
theorem dX4_below_13 : decode cX4_below 13 = .ok (.getfield 15, 3) := by decide +kernel
theorem dX4_below_16 : decode cX4_below 16 = .ok (.iload_n 1, 1) := by decide +kernel
theorem dX4_below_17 : decode cX4_below 17 = .ok (.iaload, 1) := by decide +kernel
theorem dX4_below_18 : decode cX4_below 18 = .ok (.goto 4, 3) := by decide +kernel
theorem dX4_below_21 : decode cX4_below 21 = .ok (.iconst 0, 1) := by decide +kernel
theorem dX4_below_22 : decode cX4_below 22 = .ok (.ireturn, 1) := by decide +kernel
theorem dX4_compare_0 : decode cX4_compare 0 = .ok (.iload_n 1, 1) := by decide +kernel
theorem dX4_compare_1 : decode cX4_compare 1 = .ok (.ifCond .lt 11, 3) := by decide +kernel
theorem dX4_compare_4 : decode cX4_compare 4 = .ok (.iload_n 1, 1) := by decide +kernel
theorem dX4_compare_5 : decode cX4_compare 5 = .ok (.aload_n 0, 1) := by decide +kernel
theorem dX4_compare_6 : decode cX4_compare 6 = .ok (.getfield 18, 3) := by decide +kernel
theorem dX4_compare_9 : decode cX4_compare 9 = .ok (.if_icmp .lt 5, 3) := by decide +kernel
theorem dX4_compare_12 : decode cX4_compare 12 = .ok (.iconst (-1), 1) := by decide +kernel
theorem dX4_compare_13 : decode cX4_compare 13 = .ok (.ireturn, 1) := by decide +kernel
theorem dX4_compare_14 : decode cX4_compare 14 = .ok (.aload_n 0, 1) := by decide +kernel
theorem dX4_compare_15 : decode cX4_compare 15 = .ok (.getfield 9, 3) := by decide +kernel
theorem dX4_compare_18 : decode cX4_compare 18 = .ok (.iload_n 1, 1) := by decide +kernel
theorem dX4_compare_19 : decode cX4_compare 19 = .ok (.iaload, 1) := by decide +kernel
theorem dX4_compare_20 : decode cX4_compare 20 = .ok (.iload_n 3, 1) := by decide +kernel
theorem dX4_compare_21 : decode cX4_compare 21 = .ok (.imul, 1) := by decide +kernel
theorem dX4_compare_22 : decode cX4_compare 22 = .ok (.iload_n 2, 1) := by decide +kernel
theorem dX4_compare_23 : decode cX4_compare 23 = .ok (.aload_n 0, 1) := by decide +kernel
theorem dX4_compare_24 : decode cX4_compare 24 = .ok (.getfield 15, 3) := by decide +kernel
theorem dX4_compare_27 : decode cX4_compare 27 = .ok (.iload_n 1, 1) := by decide +kernel
theorem dX4_compare_28 : decode cX4_compare 28 = .ok (.iaload, 1) := by decide +kernel
theorem dX4_compare_29 : decode cX4_compare 29 = .ok (.imul, 1) := by decide +kernel
theorem dX4_compare_30 : decode cX4_compare 30 = .ok (.isub, 1) := by decide +kernel
theorem dX4_compare_31 : decode cX4_compare 31 = .ok (.ireturn, 1) := by decide +kernel
theorem dX5_init_0 : decode cX5_init 0 = .ok (.aload_n 0, 1) := by decide +kernel
theorem dX5_init_1 : decode cX5_init 1 = .ok (.invokespecial 3, 3) := by decide +kernel
theorem dX5_init_4 : decode cX5_init 4 = .ok (.aload_n 0, 1) := by decide +kernel
theorem dX5_init_5 : decode cX5_init 5 = .ok (.iconst 0, 1) := by decide +kernel
theorem dX5_init_6 : decode cX5_init 6 = .ok (.iload_n 1, 1) := by decide +kernel
theorem dX5_init_7 : decode cX5_init 7 = .ok (.invokestatic 9, 3) := by decide +kernel
theorem dX5_init_10 : decode cX5_init 10 = .ok (.putfield 15, 3) := by decide +kernel
theorem dX5_init_13 : decode cX5_init 13 = .ok (.aload_n 0, 1) := by decide +kernel
theorem dX5_init_14 : decode cX5_init 14 = .ok (.aload_n 0, 1) := by decide +kernel
theorem dX5_init_15 : decode cX5_init 15 = .ok (.getfield 15, 3) := by decide +kernel
theorem dX5_init_18 : decode cX5_init 18 = .ok (.newarray .int, 2) := by decide +kernel
theorem dX5_init_20 : decode cX5_init 20 = .ok (.putfield 21, 3) := by decide +kernel
theorem dX5_init_23 : decode cX5_init 23 = .ok (.aload_n 0, 1) := by decide +kernel
theorem dX5_init_24 : decode cX5_init 24 = .ok (.aload_n 0, 1) := by decide +kernel
theorem dX5_init_25 : decode cX5_init 25 = .ok (.getfield 15, 3) := by decide +kernel
theorem dX5_init_28 : decode cX5_init 28 = .ok (.newarray .int, 2) := by decide +kernel
theorem dX5_init_30 : decode cX5_init 30 = .ok (.putfield 25, 3) := by decide +kernel
theorem dX5_init_33 : decode cX5_init 33 = .ok (.aload_n 0, 1) := by decide +kernel
theorem dX5_init_34 : decode cX5_init 34 = .ok (.aload_n 0, 1) := by decide +kernel
theorem dX5_init_35 : decode cX5_init 35 = .ok (.getfield 15, 3) := by decide +kernel
theorem dX5_init_38 : decode cX5_init 38 = .ok (.newarray .int, 2) := by decide +kernel
theorem dX5_init_40 : decode cX5_init 40 = .ok (.putfield 28, 3) := by decide +kernel
theorem dX5_init_43 : decode cX5_init 43 = .ok (.aload_n 0, 1) := by decide +kernel
theorem dX5_init_44 : decode cX5_init 44 = .ok (.iconst 0, 1) := by decide +kernel
theorem dX5_init_45 : decode cX5_init 45 = .ok (.putfield 31, 3) := by decide +kernel
theorem dX5_init_48 : decode cX5_init 48 = .ok (.return_, 1) := by decide +kernel
theorem dX5_size_0 : decode cX5_size 0 = .ok (.aload_n 0, 1) := by decide +kernel
theorem dX5_size_1 : decode cX5_size 1 = .ok (.getfield 31, 3) := by decide +kernel
theorem dX5_size_4 : decode cX5_size 4 = .ok (.ireturn, 1) := by decide +kernel
theorem dX5_first_0 : decode cX5_first 0 = .ok (.iload_n 1, 1) := by decide +kernel
theorem dX5_first_1 : decode cX5_first 1 = .ok (.ifCond .lt 20, 3) := by decide +kernel
theorem dX5_first_4 : decode cX5_first 4 = .ok (.iload_n 1, 1) := by decide +kernel
theorem dX5_first_5 : decode cX5_first 5 = .ok (.aload_n 0, 1) := by decide +kernel
theorem dX5_first_6 : decode cX5_first 6 = .ok (.getfield 31, 3) := by decide +kernel
theorem dX5_first_9 : decode cX5_first 9 = .ok (.if_icmp .ge 12, 3) := by decide +kernel
theorem dX5_first_12 : decode cX5_first 12 = .ok (.aload_n 0, 1) := by decide +kernel
theorem dX5_first_13 : decode cX5_first 13 = .ok (.getfield 21, 3) := by decide +kernel
theorem dX5_first_16 : decode cX5_first 16 = .ok (.iload_n 1, 1) := by decide +kernel
theorem dX5_first_17 : decode cX5_first 17 = .ok (.iaload, 1) := by decide +kernel
theorem dX5_first_18 : decode cX5_first 18 = .ok (.goto 4, 3) := by decide +kernel
theorem dX5_first_21 : decode cX5_first 21 = .ok (.iconst 0, 1) := by decide +kernel
theorem dX5_first_22 : decode cX5_first 22 = .ok (.ireturn, 1) := by decide +kernel
theorem dX5_second_0 : decode cX5_second 0 = .ok (.iload_n 1, 1) := by decide +kernel
theorem dX5_second_1 : decode cX5_second 1 = .ok (.ifCond .lt 20, 3) := by decide +kernel
theorem dX5_second_4 : decode cX5_second 4 = .ok (.iload_n 1, 1) := by decide +kernel
theorem dX5_second_5 : decode cX5_second 5 = .ok (.aload_n 0, 1) := by decide +kernel
theorem dX5_second_6 : decode cX5_second 6 = .ok (.getfield 31, 3) := by decide +kernel
theorem dX5_second_9 : decode cX5_second 9 = .ok (.if_icmp .ge 12, 3) := by decide +kernel
theorem dX5_second_12 : decode cX5_second 12 = .ok (.aload_n 0, 1) := by decide +kernel
theorem dX5_second_13 : decode cX5_second 13 = .ok (.getfield 25, 3) := by decide +kernel
theorem dX5_second_16 : decode cX5_second 16 = .ok (.iload_n 1, 1) := by decide +kernel
theorem dX5_second_17 : decode cX5_second 17 = .ok (.iaload, 1) := by decide +kernel
theorem dX5_second_18 : decode cX5_second 18 = .ok (.goto 4, 3) := by decide +kernel
theorem dX5_second_21 : decode cX5_second 21 = .ok (.iconst 0, 1) := by decide +kernel
theorem dX5_second_22 : decode cX5_second 22 = .ok (.ireturn, 1) := by decide +kernel
theorem dX5_third_0 : decode cX5_third 0 = .ok (.iload_n 1, 1) := by decide +kernel
theorem dX5_third_1 : decode cX5_third 1 = .ok (.ifCond .lt 20, 3) := by decide +kernel
theorem dX5_third_4 : decode cX5_third 4 = .ok (.iload_n 1, 1) := by decide +kernel
theorem dX5_third_5 : decode cX5_third 5 = .ok (.aload_n 0, 1) := by decide +kernel
theorem dX5_third_6 : decode cX5_third 6 = .ok (.getfield 31, 3) := by decide +kernel
theorem dX5_third_9 : decode cX5_third 9 = .ok (.if_icmp .ge 12, 3) := by decide +kernel
theorem dX5_third_12 : decode cX5_third 12 = .ok (.aload_n 0, 1) := by decide +kernel
theorem dX5_third_13 : decode cX5_third 13 = .ok (.getfield 28, 3) := by decide +kernel
theorem dX5_third_16 : decode cX5_third 16 = .ok (.iload_n 1, 1) := by decide +kernel
theorem dX5_third_17 : decode cX5_third 17 = .ok (.iaload, 1) := by decide +kernel
theorem dX5_third_18 : decode cX5_third 18 = .ok (.goto 4, 3) := by decide +kernel
theorem dX5_third_21 : decode cX5_third 21 = .ok (.iconst 0, 1) := by decide +kernel
theorem dX5_third_22 : decode cX5_third 22 = .ok (.ireturn, 1) := by decide +kernel
theorem dX5_add_0 : decode cX5_add 0 = .ok (.aload_n 0, 1) := by decide +kernel
theorem dX5_add_1 : decode cX5_add 1 = .ok (.getfield 31, 3) := by decide +kernel
theorem dX5_add_4 : decode cX5_add 4 = .ok (.aload_n 0, 1) := by decide +kernel
theorem dX5_add_5 : decode cX5_add 5 = .ok (.getfield 15, 3) := by decide +kernel
theorem dX5_add_8 : decode cX5_add 8 = .ok (.if_icmp .lt 6, 3) := by decide +kernel
theorem dX5_add_11 : decode cX5_add 11 = .ok (.bipush (-4), 2) := by decide +kernel
theorem dX5_add_13 : decode cX5_add 13 = .ok (.ireturn, 1) := by decide +kernel
theorem dX5_add_14 : decode cX5_add 14 = .ok (.aload_n 0, 1) := by decide +kernel
theorem dX5_add_15 : decode cX5_add 15 = .ok (.getfield 21, 3) := by decide +kernel
theorem dX5_add_18 : decode cX5_add 18 = .ok (.aload_n 0, 1) := by decide +kernel
theorem dX5_add_19 : decode cX5_add 19 = .ok (.getfield 31, 3) := by decide +kernel
theorem dX5_add_22 : decode cX5_add 22 = .ok (.iload_n 1, 1) := by decide +kernel
theorem dX5_add_23 : decode cX5_add 23 = .ok (.iastore, 1) := by decide +kernel
theorem dX5_add_24 : decode cX5_add 24 = .ok (.aload_n 0, 1) := by decide +kernel
theorem dX5_add_25 : decode cX5_add 25 = .ok (.getfield 25, 3) := by decide +kernel
theorem dX5_add_28 : decode cX5_add 28 = .ok (.aload_n 0, 1) := by decide +kernel
theorem dX5_add_29 : decode cX5_add 29 = .ok (.getfield 31, 3) := by decide +kernel
theorem dX5_add_32 : decode cX5_add 32 = .ok (.iload_n 2, 1) := by decide +kernel
theorem dX5_add_33 : decode cX5_add 33 = .ok (.iastore, 1) := by decide +kernel
theorem dX5_add_34 : decode cX5_add 34 = .ok (.aload_n 0, 1) := by decide +kernel
theorem dX5_add_35 : decode cX5_add 35 = .ok (.getfield 28, 3) := by decide +kernel
theorem dX5_add_38 : decode cX5_add 38 = .ok (.aload_n 0, 1) := by decide +kernel
theorem dX5_add_39 : decode cX5_add 39 = .ok (.getfield 31, 3) := by decide +kernel
theorem dX5_add_42 : decode cX5_add 42 = .ok (.iload_n 3, 1) := by decide +kernel
theorem dX5_add_43 : decode cX5_add 43 = .ok (.iastore, 1) := by decide +kernel
theorem dX5_add_44 : decode cX5_add 44 = .ok (.aload_n 0, 1) := by decide +kernel
theorem dX5_add_45 : decode cX5_add 45 = .ok (.dup, 1) := by decide +kernel
theorem dX5_add_46 : decode cX5_add 46 = .ok (.getfield 31, 3) := by decide +kernel
theorem dX5_add_49 : decode cX5_add 49 = .ok (.iconst 1, 1) := by decide +kernel
theorem dX5_add_50 : decode cX5_add 50 = .ok (.iadd, 1) := by decide +kernel
theorem dX5_add_51 : decode cX5_add 51 = .ok (.putfield 31, 3) := by decide +kernel
theorem dX5_add_54 : decode cX5_add 54 = .ok (.aload_n 0, 1) := by decide +kernel
theorem dX5_add_55 : decode cX5_add 55 = .ok (.getfield 31, 3) := by decide +kernel
theorem dX5_add_58 : decode cX5_add 58 = .ok (.ireturn, 1) := by decide +kernel
theorem dX5_empty_0 : decode cX5_empty 0 = .ok (.aload_n 0, 1) := by decide +kernel
theorem dX5_empty_1 : decode cX5_empty 1 = .ok (.iconst 0, 1) := by decide +kernel
theorem dX5_empty_2 : decode cX5_empty 2 = .ok (.putfield 31, 3) := by decide +kernel
theorem dX5_empty_5 : decode cX5_empty 5 = .ok (.return_, 1) := by decide +kernel
theorem dX5_copy_0 : decode cX5_copy 0 = .ok (.aload_n 0, 1) := by decide +kernel
theorem dX5_copy_1 : decode cX5_copy 1 = .ok (.aload_n 1, 1) := by decide +kernel
theorem dX5_copy_2 : decode cX5_copy 2 = .ok (.getfield 31, 3) := by decide +kernel
theorem dX5_copy_5 : decode cX5_copy 5 = .ok (.aload_n 0, 1) := by decide +kernel
theorem dX5_copy_6 : decode cX5_copy 6 = .ok (.getfield 15, 3) := by decide +kernel
theorem dX5_copy_9 : decode cX5_copy 9 = .ok (.invokestatic 34, 3) := by decide +kernel
theorem dX5_copy_12 : decode cX5_copy 12 = .ok (.putfield 31, 3) := by decide +kernel
theorem dX5_copy_15 : decode cX5_copy 15 = .ok (.iconst 0, 1) := by decide +kernel
theorem dX5_copy_16 : decode cX5_copy 16 = .ok (.istore_n 2, 1) := by decide +kernel
theorem dX5_copy_17 : decode cX5_copy 17 = .ok (.iload_n 2, 1) := by decide +kernel
theorem dX5_copy_18 : decode cX5_copy 18 = .ok (.aload_n 0, 1) := by decide +kernel
theorem dX5_copy_19 : decode cX5_copy 19 = .ok (.getfield 31, 3) := by decide +kernel
theorem dX5_copy_22 : decode cX5_copy 22 = .ok (.if_icmp .ge 45, 3) := by decide +kernel
theorem dX5_copy_25 : decode cX5_copy 25 = .ok (.aload_n 0, 1) := by decide +kernel
theorem dX5_copy_26 : decode cX5_copy 26 = .ok (.getfield 21, 3) := by decide +kernel
theorem dX5_copy_29 : decode cX5_copy 29 = .ok (.iload_n 2, 1) := by decide +kernel
theorem dX5_copy_30 : decode cX5_copy 30 = .ok (.aload_n 1, 1) := by decide +kernel
theorem dX5_copy_31 : decode cX5_copy 31 = .ok (.getfield 21, 3) := by decide +kernel
theorem dX5_copy_34 : decode cX5_copy 34 = .ok (.iload_n 2, 1) := by decide +kernel
theorem dX5_copy_35 : decode cX5_copy 35 = .ok (.iaload, 1) := by decide +kernel
theorem dX5_copy_36 : decode cX5_copy 36 = .ok (.iastore, 1) := by decide +kernel
theorem dX5_copy_37 : decode cX5_copy 37 = .ok (.aload_n 0, 1) := by decide +kernel
theorem dX5_copy_38 : decode cX5_copy 38 = .ok (.getfield 25, 3) := by decide +kernel
theorem dX5_copy_41 : decode cX5_copy 41 = .ok (.iload_n 2, 1) := by decide +kernel
theorem dX5_copy_42 : decode cX5_copy 42 = .ok (.aload_n 1, 1) := by decide +kernel
theorem dX5_copy_43 : decode cX5_copy 43 = .ok (.getfield 25, 3) := by decide +kernel
theorem dX5_copy_46 : decode cX5_copy 46 = .ok (.iload_n 2, 1) := by decide +kernel
theorem dX5_copy_47 : decode cX5_copy 47 = .ok (.iaload, 1) := by decide +kernel
theorem dX5_copy_48 : decode cX5_copy 48 = .ok (.iastore, 1) := by decide +kernel
theorem dX5_copy_49 : decode cX5_copy 49 = .ok (.aload_n 0, 1) := by decide +kernel
theorem dX5_copy_50 : decode cX5_copy 50 = .ok (.getfield 28, 3) := by decide +kernel
theorem dX5_copy_53 : decode cX5_copy 53 = .ok (.iload_n 2, 1) := by decide +kernel
theorem dX5_copy_54 : decode cX5_copy 54 = .ok (.aload_n 1, 1) := by decide +kernel
theorem dX5_copy_55 : decode cX5_copy 55 = .ok (.getfield 28, 3) := by decide +kernel
theorem dX5_copy_58 : decode cX5_copy 58 = .ok (.iload_n 2, 1) := by decide +kernel
theorem dX5_copy_59 : decode cX5_copy 59 = .ok (.iaload, 1) := by decide +kernel
theorem dX5_copy_60 : decode cX5_copy 60 = .ok (.iastore, 1) := by decide +kernel
theorem dX5_copy_61 : decode cX5_copy 61 = .ok (.iinc 2 1, 3) := by decide +kernel
theorem dX5_copy_64 : decode cX5_copy 64 = .ok (.goto (-47), 3) := by decide +kernel
theorem dX5_copy_67 : decode cX5_copy 67 = .ok (.return_, 1) := by decide +kernel
theorem dX6_init_0 : decode cX6_init 0 = .ok (.aload_n 0, 1) := by decide +kernel
theorem dX6_init_1 : decode cX6_init 1 = .ok (.invokespecial 3, 3) := by decide +kernel
theorem dX6_init_4 : decode cX6_init 4 = .ok (.aload_n 0, 1) := by decide +kernel
theorem dX6_init_5 : decode cX6_init 5 = .ok (.bipush 60, 2) := by decide +kernel
theorem dX6_init_7 : decode cX6_init 7 = .ok (.newarray .long, 2) := by decide +kernel
theorem dX6_init_9 : decode cX6_init 9 = .ok (.putfield 9, 3) := by decide +kernel
theorem dX6_init_12 : decode cX6_init 12 = .ok (.aload_n 0, 1) := by decide +kernel
theorem dX6_init_13 : decode cX6_init 13 = .ok (.iconst (-1), 1) := by decide +kernel
theorem dX6_init_14 : decode cX6_init 14 = .ok (.putfield 15, 3) := by decide +kernel
theorem dX6_init_17 : decode cX6_init 17 = .ok (.aload_n 0, 1) := by decide +kernel
theorem dX6_init_18 : decode cX6_init 18 = .ok (.iconst 0, 1) := by decide +kernel
theorem dX6_init_19 : decode cX6_init 19 = .ok (.putfield 19, 3) := by decide +kernel
theorem dX6_init_22 : decode cX6_init 22 = .ok (.return_, 1) := by decide +kernel
theorem dX6_become_0 : decode cX6_become 0 = .ok (.aload_n 0, 1) := by decide +kernel
theorem dX6_become_1 : decode cX6_become 1 = .ok (.iload_n 1, 1) := by decide +kernel
theorem dX6_become_2 : decode cX6_become 2 = .ok (.putfield 15, 3) := by decide +kernel
theorem dX6_become_5 : decode cX6_become 5 = .ok (.aload_n 0, 1) := by decide +kernel
theorem dX6_become_6 : decode cX6_become 6 = .ok (.iconst 0, 1) := by decide +kernel
theorem dX6_become_7 : decode cX6_become 7 = .ok (.iload_n 2, 1) := by decide +kernel
theorem dX6_become_8 : decode cX6_become 8 = .ok (.bipush 60, 2) := by decide +kernel
theorem dX6_become_10 : decode cX6_become 10 = .ok (.invokestatic 22, 3) := by decide +kernel
theorem dX6_become_13 : decode cX6_become 13 = .ok (.invokestatic 28, 3) := by decide +kernel
theorem dX6_become_16 : decode cX6_become 16 = .ok (.putfield 19, 3) := by decide +kernel
theorem dX6_become_19 : decode cX6_become 19 = .ok (.iconst 0, 1) := by decide +kernel
theorem dX6_become_20 : decode cX6_become 20 = .ok (.istore_n 3, 1) := by decide +kernel
theorem dX6_become_21 : decode cX6_become 21 = .ok (.iload_n 3, 1) := by decide +kernel
theorem dX6_become_22 : decode cX6_become 22 = .ok (.aload_n 0, 1) := by decide +kernel
theorem dX6_become_23 : decode cX6_become 23 = .ok (.getfield 19, 3) := by decide +kernel
theorem dX6_become_26 : decode cX6_become 26 = .ok (.if_icmp .ge 16, 3) := by decide +kernel
theorem dX6_become_29 : decode cX6_become 29 = .ok (.aload_n 0, 1) := by decide +kernel
theorem dX6_become_30 : decode cX6_become 30 = .ok (.getfield 9, 3) := by decide +kernel
theorem dX6_become_33 : decode cX6_become 33 = .ok (.iload_n 3, 1) := by decide +kernel
theorem dX6_become_34 : decode cX6_become 34 = .ok (.lconst 0, 1) := by decide +kernel
theorem dX6_become_35 : decode cX6_become 35 = .ok (.lastore, 1) := by decide +kernel
theorem dX6_become_36 : decode cX6_become 36 = .ok (.iinc 3 1, 3) := by decide +kernel
theorem dX6_become_39 : decode cX6_become 39 = .ok (.goto (-18), 3) := by decide +kernel
theorem dX6_become_42 : decode cX6_become 42 = .ok (.return_, 1) := by decide +kernel
theorem dX6_isNothing_0 : decode cX6_isNothing 0 = .ok (.aload_n 0, 1) := by decide +kernel
theorem dX6_isNothing_1 : decode cX6_isNothing 1 = .ok (.getfield 15, 3) := by decide +kernel
theorem dX6_isNothing_4 : decode cX6_isNothing 4 = .ok (.iconst (-1), 1) := by decide +kernel
theorem dX6_isNothing_5 : decode cX6_isNothing 5 = .ok (.if_icmp .ne 7, 3) := by decide +kernel
theorem dX6_isNothing_8 : decode cX6_isNothing 8 = .ok (.iconst 1, 1) := by decide +kernel
theorem dX6_isNothing_9 : decode cX6_isNothing 9 = .ok (.goto 4, 3) := by decide +kernel
theorem dX6_isNothing_12 : decode cX6_isNothing 12 = .ok (.iconst 0, 1) := by decide +kernel
theorem dX6_isNothing_13 : decode cX6_isNothing 13 = .ok (.ireturn, 1) := by decide +kernel
theorem dX6_sort_0 : decode cX6_sort 0 = .ok (.aload_n 0, 1) := by decide +kernel
theorem dX6_sort_1 : decode cX6_sort 1 = .ok (.getfield 15, 3) := by decide +kernel
theorem dX6_sort_4 : decode cX6_sort 4 = .ok (.ireturn, 1) := by decide +kernel
theorem dX6_hasRange_0 : decode cX6_hasRange 0 = .ok (.lload_n 1, 1) := by decide +kernel
theorem dX6_hasRange_1 : decode cX6_hasRange 1 = .ok (.lconst 0, 1) := by decide +kernel
theorem dX6_hasRange_2 : decode cX6_hasRange 2 = .ok (.lcmp, 1) := by decide +kernel
theorem dX6_hasRange_3 : decode cX6_hasRange 3 = .ok (.ifCond .lt 25, 3) := by decide +kernel
theorem dX6_hasRange_6 : decode cX6_hasRange 6 = .ok (.lload_n 3, 1) := by decide +kernel
theorem dX6_hasRange_7 : decode cX6_hasRange 7 = .ok (.lconst 0, 1) := by decide +kernel
theorem dX6_hasRange_8 : decode cX6_hasRange 8 = .ok (.lcmp, 1) := by decide +kernel
theorem dX6_hasRange_9 : decode cX6_hasRange 9 = .ok (.ifCond .lt 19, 3) := by decide +kernel
theorem dX6_hasRange_12 : decode cX6_hasRange 12 = .ok (.lload_n 1, 1) := by decide +kernel
theorem dX6_hasRange_13 : decode cX6_hasRange 13 = .ok (.lload_n 3, 1) := by decide +kernel
theorem dX6_hasRange_14 : decode cX6_hasRange 14 = .ok (.ladd, 1) := by decide +kernel
theorem dX6_hasRange_15 : decode cX6_hasRange 15 = .ok (.aload_n 0, 1) := by decide +kernel
theorem dX6_hasRange_16 : decode cX6_hasRange 16 = .ok (.getfield 19, 3) := by decide +kernel
theorem dX6_hasRange_19 : decode cX6_hasRange 19 = .ok (.i2l, 1) := by decide +kernel
theorem dX6_hasRange_20 : decode cX6_hasRange 20 = .ok (.lcmp, 1) := by decide +kernel
theorem dX6_hasRange_21 : decode cX6_hasRange 21 = .ok (.ifCond .gt 7, 3) := by decide +kernel
theorem dX6_hasRange_24 : decode cX6_hasRange 24 = .ok (.iconst 1, 1) := by decide +kernel
theorem dX6_hasRange_25 : decode cX6_hasRange 25 = .ok (.goto 4, 3) := by decide +kernel
theorem dX6_hasRange_28 : decode cX6_hasRange 28 = .ok (.iconst 0, 1) := by decide +kernel
theorem dX6_hasRange_29 : decode cX6_hasRange 29 = .ok (.ireturn, 1) := by decide +kernel
theorem dX6_get_0 : decode cX6_get 0 = .ok (.iload_n 1, 1) := by decide +kernel
theorem dX6_get_1 : decode cX6_get 1 = .ok (.ifCond .lt 20, 3) := by decide +kernel
theorem dX6_get_4 : decode cX6_get 4 = .ok (.iload_n 1, 1) := by decide +kernel
theorem dX6_get_5 : decode cX6_get 5 = .ok (.aload_n 0, 1) := by decide +kernel
theorem dX6_get_6 : decode cX6_get 6 = .ok (.getfield 19, 3) := by decide +kernel
theorem dX6_get_9 : decode cX6_get 9 = .ok (.if_icmp .ge 12, 3) := by decide +kernel
theorem dX6_get_12 : decode cX6_get 12 = .ok (.aload_n 0, 1) := by decide +kernel
theorem dX6_get_13 : decode cX6_get 13 = .ok (.getfield 9, 3) := by decide +kernel
theorem dX6_get_16 : decode cX6_get 16 = .ok (.iload_n 1, 1) := by decide +kernel
theorem dX6_get_17 : decode cX6_get 17 = .ok (.laload, 1) := by decide +kernel
theorem dX6_get_18 : decode cX6_get 18 = .ok (.goto 4, 3) := by decide +kernel
theorem dX6_get_21 : decode cX6_get 21 = .ok (.lconst 0, 1) := by decide +kernel
theorem dX6_get_22 : decode cX6_get 22 = .ok (.lreturn, 1) := by decide +kernel
theorem dX6_set_0 : decode cX6_set 0 = .ok (.iload_n 1, 1) := by decide +kernel
theorem dX6_set_1 : decode cX6_set 1 = .ok (.ifCond .lt 22, 3) := by decide +kernel
theorem dX6_set_4 : decode cX6_set 4 = .ok (.iload_n 1, 1) := by decide +kernel
theorem dX6_set_5 : decode cX6_set 5 = .ok (.aload_n 0, 1) := by decide +kernel
theorem dX6_set_6 : decode cX6_set 6 = .ok (.getfield 19, 3) := by decide +kernel
theorem dX6_set_9 : decode cX6_set 9 = .ok (.if_icmp .ge 14, 3) := by decide +kernel
theorem dX6_set_12 : decode cX6_set 12 = .ok (.aload_n 0, 1) := by decide +kernel
theorem dX6_set_13 : decode cX6_set 13 = .ok (.getfield 9, 3) := by decide +kernel
theorem dX6_set_16 : decode cX6_set 16 = .ok (.iload_n 1, 1) := by decide +kernel
theorem dX6_set_17 : decode cX6_set 17 = .ok (.aload_n 0, 1) := by decide +kernel
theorem dX6_set_18 : decode cX6_set 18 = .ok (.lload_n 2, 1) := by decide +kernel
theorem dX6_set_19 : decode cX6_set 19 = .ok (.invokevirtual 31, 3) := by decide +kernel
theorem dX6_set_22 : decode cX6_set 22 = .ok (.lastore, 1) := by decide +kernel
theorem dX6_set_23 : decode cX6_set 23 = .ok (.return_, 1) := by decide +kernel
theorem dX6_narrow_0 : decode cX6_narrow 0 = .ok (.aload_n 0, 1) := by decide +kernel
theorem dX6_narrow_1 : decode cX6_narrow 1 = .ok (.getfield 15, 3) := by decide +kernel
theorem dX6_narrow_4 : decode cX6_narrow 4 = .ok (.tableswitch 48 0 3 #[32, 37, 42, 46], 32) := by decide +kernel
theorem dX6_narrow_36 : decode cX6_narrow 36 = .ok (.lload_n 1, 1) := by decide +kernel
theorem dX6_narrow_37 : decode cX6_narrow 37 = .ok (.l2i, 1) := by decide +kernel
theorem dX6_narrow_38 : decode cX6_narrow 38 = .ok (.i2b, 1) := by decide +kernel
theorem dX6_narrow_39 : decode cX6_narrow 39 = .ok (.i2l, 1) := by decide +kernel
theorem dX6_narrow_40 : decode cX6_narrow 40 = .ok (.lreturn, 1) := by decide +kernel
theorem dX6_narrow_41 : decode cX6_narrow 41 = .ok (.lload_n 1, 1) := by decide +kernel
theorem dX6_narrow_42 : decode cX6_narrow 42 = .ok (.l2i, 1) := by decide +kernel
theorem dX6_narrow_43 : decode cX6_narrow 43 = .ok (.i2s, 1) := by decide +kernel
theorem dX6_narrow_44 : decode cX6_narrow 44 = .ok (.i2l, 1) := by decide +kernel
theorem dX6_narrow_45 : decode cX6_narrow 45 = .ok (.lreturn, 1) := by decide +kernel
theorem dX6_narrow_46 : decode cX6_narrow 46 = .ok (.lload_n 1, 1) := by decide +kernel
theorem dX6_narrow_47 : decode cX6_narrow 47 = .ok (.l2i, 1) := by decide +kernel
theorem dX6_narrow_48 : decode cX6_narrow 48 = .ok (.i2l, 1) := by decide +kernel
theorem dX6_narrow_49 : decode cX6_narrow 49 = .ok (.lreturn, 1) := by decide +kernel
theorem dX6_narrow_50 : decode cX6_narrow 50 = .ok (.lload_n 1, 1) := by decide +kernel
theorem dX6_narrow_51 : decode cX6_narrow 51 = .ok (.lreturn, 1) := by decide +kernel
theorem dX6_narrow_52 : decode cX6_narrow 52 = .ok (.lload_n 1, 1) := by decide +kernel
theorem dX6_narrow_53 : decode cX6_narrow 53 = .ok (.lconst 0, 1) := by decide +kernel
theorem dX6_narrow_54 : decode cX6_narrow 54 = .ok (.lcmp, 1) := by decide +kernel
theorem dX6_narrow_55 : decode cX6_narrow 55 = .ok (.ifCond .eq 7, 3) := by decide +kernel
theorem dX6_narrow_58 : decode cX6_narrow 58 = .ok (.lconst 1, 1) := by decide +kernel
theorem dX6_narrow_59 : decode cX6_narrow 59 = .ok (.goto 4, 3) := by decide +kernel
theorem dX6_narrow_62 : decode cX6_narrow 62 = .ok (.lconst 0, 1) := by decide +kernel
theorem dX6_narrow_63 : decode cX6_narrow 63 = .ok (.lreturn, 1) := by decide +kernel
theorem dX6_take_0 : decode cX6_take 0 = .ok (.aload_n 0, 1) := by decide +kernel
theorem dX6_take_1 : decode cX6_take 1 = .ok (.iload_n 1, 1) := by decide +kernel
theorem dX6_take_2 : decode cX6_take 2 = .ok (.i2l, 1) := by decide +kernel
theorem dX6_take_3 : decode cX6_take 3 = .ok (.iload 4, 2) := by decide +kernel
end
section
theorem dX6_take_5 : decode cX6_take 5 = .ok (.i2l, 1) := by decide +kernel
theorem dX6_take_6 : decode cX6_take 6 = .ok (.invokevirtual 35, 3) := by decide +kernel
theorem dX6_take_9 : decode cX6_take 9 = .ok (.ifCond .eq 30, 3) := by decide +kernel
theorem dX6_take_12 : decode cX6_take 12 = .ok (.aload_n 2, 1) := by decide +kernel
theorem dX6_take_13 : decode cX6_take 13 = .ok (.iload_n 3, 1) := by decide +kernel
theorem dX6_take_14 : decode cX6_take 14 = .ok (.i2l, 1) := by decide +kernel
theorem dX6_take_15 : decode cX6_take 15 = .ok (.iload 4, 2) := by decide +kernel
theorem dX6_take_17 : decode cX6_take 17 = .ok (.i2l, 1) := by decide +kernel
theorem dX6_take_18 : decode cX6_take 18 = .ok (.invokevirtual 35, 3) := by decide +kernel
theorem dX6_take_21 : decode cX6_take 21 = .ok (.ifCond .eq 18, 3) := by decide +kernel
theorem dX6_take_24 : decode cX6_take 24 = .ok (.aload_n 2, 1) := by decide +kernel
theorem dX6_take_25 : decode cX6_take 25 = .ok (.getfield 9, 3) := by decide +kernel
theorem dX6_take_28 : decode cX6_take 28 = .ok (.iload_n 3, 1) := by decide +kernel
theorem dX6_take_29 : decode cX6_take 29 = .ok (.aload_n 0, 1) := by decide +kernel
theorem dX6_take_30 : decode cX6_take 30 = .ok (.getfield 9, 3) := by decide +kernel
theorem dX6_take_33 : decode cX6_take 33 = .ok (.iload_n 1, 1) := by decide +kernel
theorem dX6_take_34 : decode cX6_take 34 = .ok (.iload 4, 2) := by decide +kernel
theorem dX6_take_36 : decode cX6_take 36 = .ok (.invokestatic 39, 3) := by decide +kernel
theorem dX6_take_39 : decode cX6_take 39 = .ok (.return_, 1) := by decide +kernel
theorem dX7_init_0 : decode cX7_init 0 = .ok (.aload_n 0, 1) := by decide +kernel
theorem dX7_init_1 : decode cX7_init 1 = .ok (.invokespecial 1, 3) := by decide +kernel
theorem dX7_init_4 : decode cX7_init 4 = .ok (.aload_n 0, 1) := by decide +kernel
theorem dX7_init_5 : decode cX7_init 5 = .ok (.bipush 100, 2) := by decide +kernel
theorem dX7_init_7 : decode cX7_init 7 = .ok (.newarray .byte, 2) := by decide +kernel
theorem dX7_init_9 : decode cX7_init 9 = .ok (.putfield 9, 3) := by decide +kernel
theorem dX7_init_12 : decode cX7_init 12 = .ok (.aload_n 0, 1) := by decide +kernel
theorem dX7_init_13 : decode cX7_init 13 = .ok (.iconst 0, 1) := by decide +kernel
theorem dX7_init_14 : decode cX7_init 14 = .ok (.putfield 13, 3) := by decide +kernel
theorem dX7_init_17 : decode cX7_init 17 = .ok (.return_, 1) := by decide +kernel
theorem dX7_size_0 : decode cX7_size 0 = .ok (.aload_n 0, 1) := by decide +kernel
theorem dX7_size_1 : decode cX7_size 1 = .ok (.getfield 13, 3) := by decide +kernel
theorem dX7_size_4 : decode cX7_size 4 = .ok (.ireturn, 1) := by decide +kernel
theorem dX7_isFull_0 : decode cX7_isFull 0 = .ok (.aload_n 0, 1) := by decide +kernel
theorem dX7_isFull_1 : decode cX7_isFull 1 = .ok (.getfield 13, 3) := by decide +kernel
theorem dX7_isFull_4 : decode cX7_isFull 4 = .ok (.bipush 100, 2) := by decide +kernel
theorem dX7_isFull_6 : decode cX7_isFull 6 = .ok (.if_icmp .lt 7, 3) := by decide +kernel
theorem dX7_isFull_9 : decode cX7_isFull 9 = .ok (.iconst 1, 1) := by decide +kernel
theorem dX7_isFull_10 : decode cX7_isFull 10 = .ok (.goto 4, 3) := by decide +kernel
theorem dX7_isFull_13 : decode cX7_isFull 13 = .ok (.iconst 0, 1) := by decide +kernel
theorem dX7_isFull_14 : decode cX7_isFull 14 = .ok (.ireturn, 1) := by decide +kernel
theorem dX7_add_0 : decode cX7_add 0 = .ok (.aload_n 0, 1) := by decide +kernel
theorem dX7_add_1 : decode cX7_add 1 = .ok (.getfield 13, 3) := by decide +kernel
theorem dX7_add_4 : decode cX7_add 4 = .ok (.bipush 100, 2) := by decide +kernel
theorem dX7_add_6 : decode cX7_add 6 = .ok (.if_icmp .ge 24, 3) := by decide +kernel
theorem dX7_add_9 : decode cX7_add 9 = .ok (.aload_n 0, 1) := by decide +kernel
theorem dX7_add_10 : decode cX7_add 10 = .ok (.getfield 9, 3) := by decide +kernel
theorem dX7_add_13 : decode cX7_add 13 = .ok (.aload_n 0, 1) := by decide +kernel
theorem dX7_add_14 : decode cX7_add 14 = .ok (.getfield 13, 3) := by decide +kernel
theorem dX7_add_17 : decode cX7_add 17 = .ok (.iload_n 1, 1) := by decide +kernel
theorem dX7_add_18 : decode cX7_add 18 = .ok (.i2b, 1) := by decide +kernel
theorem dX7_add_19 : decode cX7_add 19 = .ok (.bastore, 1) := by decide +kernel
theorem dX7_add_20 : decode cX7_add 20 = .ok (.aload_n 0, 1) := by decide +kernel
theorem dX7_add_21 : decode cX7_add 21 = .ok (.dup, 1) := by decide +kernel
theorem dX7_add_22 : decode cX7_add 22 = .ok (.getfield 13, 3) := by decide +kernel
theorem dX7_add_25 : decode cX7_add 25 = .ok (.iconst 1, 1) := by decide +kernel
theorem dX7_add_26 : decode cX7_add 26 = .ok (.iadd, 1) := by decide +kernel
theorem dX7_add_27 : decode cX7_add 27 = .ok (.putfield 13, 3) := by decide +kernel
theorem dX7_add_30 : decode cX7_add 30 = .ok (.return_, 1) := by decide +kernel
theorem dX7_empty_0 : decode cX7_empty 0 = .ok (.aload_n 0, 1) := by decide +kernel
theorem dX7_empty_1 : decode cX7_empty 1 = .ok (.iconst 0, 1) := by decide +kernel
theorem dX7_empty_2 : decode cX7_empty 2 = .ok (.putfield 13, 3) := by decide +kernel
theorem dX7_empty_5 : decode cX7_empty 5 = .ok (.return_, 1) := by decide +kernel
theorem dX7_signAt_0 : decode cX7_signAt 0 = .ok (.iload_n 1, 1) := by decide +kernel
theorem dX7_signAt_1 : decode cX7_signAt 1 = .ok (.ifCond .lt 20, 3) := by decide +kernel
theorem dX7_signAt_4 : decode cX7_signAt 4 = .ok (.iload_n 1, 1) := by decide +kernel
theorem dX7_signAt_5 : decode cX7_signAt 5 = .ok (.aload_n 0, 1) := by decide +kernel
theorem dX7_signAt_6 : decode cX7_signAt 6 = .ok (.getfield 13, 3) := by decide +kernel
theorem dX7_signAt_9 : decode cX7_signAt 9 = .ok (.if_icmp .ge 12, 3) := by decide +kernel
theorem dX7_signAt_12 : decode cX7_signAt 12 = .ok (.aload_n 0, 1) := by decide +kernel
theorem dX7_signAt_13 : decode cX7_signAt 13 = .ok (.getfield 9, 3) := by decide +kernel
theorem dX7_signAt_16 : decode cX7_signAt 16 = .ok (.iload_n 1, 1) := by decide +kernel
theorem dX7_signAt_17 : decode cX7_signAt 17 = .ok (.baload, 1) := by decide +kernel
theorem dX7_signAt_18 : decode cX7_signAt 18 = .ok (.goto 4, 3) := by decide +kernel
theorem dX7_signAt_21 : decode cX7_signAt 21 = .ok (.iconst (-1), 1) := by decide +kernel
theorem dX7_signAt_22 : decode cX7_signAt 22 = .ok (.ireturn, 1) := by decide +kernel
theorem dX7_digitAt_0 : decode cX7_digitAt 0 = .ok (.aload_n 0, 1) := by decide +kernel
theorem dX7_digitAt_1 : decode cX7_digitAt 1 = .ok (.iload_n 1, 1) := by decide +kernel
theorem dX7_digitAt_2 : decode cX7_digitAt 2 = .ok (.invokevirtual 17, 3) := by decide +kernel
theorem dX7_digitAt_5 : decode cX7_digitAt 5 = .ok (.bipush 48, 2) := by decide +kernel
theorem dX7_digitAt_7 : decode cX7_digitAt 7 = .ok (.isub, 1) := by decide +kernel
theorem dX7_digitAt_8 : decode cX7_digitAt 8 = .ok (.ireturn, 1) := by decide +kernel
theorem dX7_isDigit_0 : decode cX7_isDigit 0 = .ok (.aload_n 0, 1) := by decide +kernel
theorem dX7_isDigit_1 : decode cX7_isDigit 1 = .ok (.iload_n 1, 1) := by decide +kernel
theorem dX7_isDigit_2 : decode cX7_isDigit 2 = .ok (.invokevirtual 17, 3) := by decide +kernel
theorem dX7_isDigit_5 : decode cX7_isDigit 5 = .ok (.bipush 48, 2) := by decide +kernel
theorem dX7_isDigit_7 : decode cX7_isDigit 7 = .ok (.if_icmp .lt 17, 3) := by decide +kernel
theorem dX7_isDigit_10 : decode cX7_isDigit 10 = .ok (.aload_n 0, 1) := by decide +kernel
theorem dX7_isDigit_11 : decode cX7_isDigit 11 = .ok (.iload_n 1, 1) := by decide +kernel
theorem dX7_isDigit_12 : decode cX7_isDigit 12 = .ok (.invokevirtual 17, 3) := by decide +kernel
theorem dX7_isDigit_15 : decode cX7_isDigit 15 = .ok (.bipush 57, 2) := by decide +kernel
theorem dX7_isDigit_17 : decode cX7_isDigit 17 = .ok (.if_icmp .gt 7, 3) := by decide +kernel
theorem dX7_isDigit_20 : decode cX7_isDigit 20 = .ok (.iconst 1, 1) := by decide +kernel
theorem dX7_isDigit_21 : decode cX7_isDigit 21 = .ok (.goto 4, 3) := by decide +kernel
theorem dX7_isDigit_24 : decode cX7_isDigit 24 = .ok (.iconst 0, 1) := by decide +kernel
theorem dX7_isDigit_25 : decode cX7_isDigit 25 = .ok (.ireturn, 1) := by decide +kernel
theorem dX7_clauseLength_0 : decode cX7_clauseLength 0 = .ok (.iload_n 0, 1) := by decide +kernel
theorem dX7_clauseLength_1 : decode cX7_clauseLength 1 = .ok (.lookupswitch 67 #[(43, 59), (45, 61), (99, 63), (109, 63), (117, 65), (122, 63)], 59) := by decide +kernel
theorem dX7_clauseLength_60 : decode cX7_clauseLength 60 = .ok (.iconst 4, 1) := by decide +kernel
theorem dX7_clauseLength_61 : decode cX7_clauseLength 61 = .ok (.ireturn, 1) := by decide +kernel
theorem dX7_clauseLength_62 : decode cX7_clauseLength 62 = .ok (.iconst 3, 1) := by decide +kernel
theorem dX7_clauseLength_63 : decode cX7_clauseLength 63 = .ok (.ireturn, 1) := by decide +kernel
theorem dX7_clauseLength_64 : decode cX7_clauseLength 64 = .ok (.iconst 2, 1) := by decide +kernel
theorem dX7_clauseLength_65 : decode cX7_clauseLength 65 = .ok (.ireturn, 1) := by decide +kernel
theorem dX7_clauseLength_66 : decode cX7_clauseLength 66 = .ok (.iconst 1, 1) := by decide +kernel
theorem dX7_clauseLength_67 : decode cX7_clauseLength 67 = .ok (.ireturn, 1) := by decide +kernel
theorem dX7_clauseLength_68 : decode cX7_clauseLength 68 = .ok (.iconst 0, 1) := by decide +kernel
theorem dX7_clauseLength_69 : decode cX7_clauseLength 69 = .ok (.ireturn, 1) := by decide +kernel
theorem dX7_faultPlace_0 : decode cX7_faultPlace 0 = .ok (.iconst 0, 1) := by decide +kernel
theorem dX7_faultPlace_1 : decode cX7_faultPlace 1 = .ok (.istore_n 1, 1) := by decide +kernel
theorem dX7_faultPlace_2 : decode cX7_faultPlace 2 = .ok (.iconst 1, 1) := by decide +kernel
theorem dX7_faultPlace_3 : decode cX7_faultPlace 3 = .ok (.istore_n 2, 1) := by decide +kernel
theorem dX7_faultPlace_4 : decode cX7_faultPlace 4 = .ok (.iload_n 2, 1) := by decide +kernel
theorem dX7_faultPlace_5 : decode cX7_faultPlace 5 = .ok (.bipush 12, 2) := by decide +kernel
theorem dX7_faultPlace_7 : decode cX7_faultPlace 7 = .ok (.if_icmp .gt 96, 3) := by decide +kernel
theorem dX7_faultPlace_10 : decode cX7_faultPlace 10 = .ok (.aload_n 0, 1) := by decide +kernel
theorem dX7_faultPlace_11 : decode cX7_faultPlace 11 = .ok (.iload_n 1, 1) := by decide +kernel
theorem dX7_faultPlace_12 : decode cX7_faultPlace 12 = .ok (.invokevirtual 17, 3) := by decide +kernel
theorem dX7_faultPlace_15 : decode cX7_faultPlace 15 = .ok (.invokestatic 21, 3) := by decide +kernel
theorem dX7_faultPlace_18 : decode cX7_faultPlace 18 = .ok (.istore_n 3, 1) := by decide +kernel
theorem dX7_faultPlace_19 : decode cX7_faultPlace 19 = .ok (.iload_n 3, 1) := by decide +kernel
theorem dX7_faultPlace_20 : decode cX7_faultPlace 20 = .ok (.ifCond .ne 5, 3) := by decide +kernel
theorem dX7_faultPlace_23 : decode cX7_faultPlace 23 = .ok (.iload_n 1, 1) := by decide +kernel
theorem dX7_faultPlace_24 : decode cX7_faultPlace 24 = .ok (.ireturn, 1) := by decide +kernel
theorem dX7_faultPlace_25 : decode cX7_faultPlace 25 = .ok (.iconst 1, 1) := by decide +kernel
theorem dX7_faultPlace_26 : decode cX7_faultPlace 26 = .ok (.istore 4, 2) := by decide +kernel
theorem dX7_faultPlace_28 : decode cX7_faultPlace 28 = .ok (.iload 4, 2) := by decide +kernel
theorem dX7_faultPlace_30 : decode cX7_faultPlace 30 = .ok (.iload_n 3, 1) := by decide +kernel
theorem dX7_faultPlace_31 : decode cX7_faultPlace 31 = .ok (.if_icmp .ge 25, 3) := by decide +kernel
theorem dX7_faultPlace_34 : decode cX7_faultPlace 34 = .ok (.aload_n 0, 1) := by decide +kernel
theorem dX7_faultPlace_35 : decode cX7_faultPlace 35 = .ok (.iload_n 1, 1) := by decide +kernel
theorem dX7_faultPlace_36 : decode cX7_faultPlace 36 = .ok (.iload 4, 2) := by decide +kernel
theorem dX7_faultPlace_38 : decode cX7_faultPlace 38 = .ok (.iadd, 1) := by decide +kernel
theorem dX7_faultPlace_39 : decode cX7_faultPlace 39 = .ok (.invokevirtual 24, 3) := by decide +kernel
theorem dX7_faultPlace_42 : decode cX7_faultPlace 42 = .ok (.ifCond .ne 8, 3) := by decide +kernel
theorem dX7_faultPlace_45 : decode cX7_faultPlace 45 = .ok (.iload_n 1, 1) := by decide +kernel
theorem dX7_faultPlace_46 : decode cX7_faultPlace 46 = .ok (.iload 4, 2) := by decide +kernel
theorem dX7_faultPlace_48 : decode cX7_faultPlace 48 = .ok (.iadd, 1) := by decide +kernel
theorem dX7_faultPlace_49 : decode cX7_faultPlace 49 = .ok (.ireturn, 1) := by decide +kernel
theorem dX7_faultPlace_50 : decode cX7_faultPlace 50 = .ok (.iinc 4 1, 3) := by decide +kernel
theorem dX7_faultPlace_53 : decode cX7_faultPlace 53 = .ok (.goto (-25), 3) := by decide +kernel
theorem dX7_faultPlace_56 : decode cX7_faultPlace 56 = .ok (.iload_n 1, 1) := by decide +kernel
theorem dX7_faultPlace_57 : decode cX7_faultPlace 57 = .ok (.iload_n 3, 1) := by decide +kernel
theorem dX7_faultPlace_58 : decode cX7_faultPlace 58 = .ok (.iadd, 1) := by decide +kernel
theorem dX7_faultPlace_59 : decode cX7_faultPlace 59 = .ok (.istore 4, 2) := by decide +kernel
theorem dX7_faultPlace_61 : decode cX7_faultPlace 61 = .ok (.iload 4, 2) := by decide +kernel
theorem dX7_faultPlace_63 : decode cX7_faultPlace 63 = .ok (.aload_n 0, 1) := by decide +kernel
theorem dX7_faultPlace_64 : decode cX7_faultPlace 64 = .ok (.getfield 13, 3) := by decide +kernel
theorem dX7_faultPlace_67 : decode cX7_faultPlace 67 = .ok (.if_icmp .ne 5, 3) := by decide +kernel
theorem dX7_faultPlace_70 : decode cX7_faultPlace 70 = .ok (.iconst (-1), 1) := by decide +kernel
theorem dX7_faultPlace_71 : decode cX7_faultPlace 71 = .ok (.ireturn, 1) := by decide +kernel
theorem dX7_faultPlace_72 : decode cX7_faultPlace 72 = .ok (.aload_n 0, 1) := by decide +kernel
theorem dX7_faultPlace_73 : decode cX7_faultPlace 73 = .ok (.iload 4, 2) := by decide +kernel
theorem dX7_faultPlace_75 : decode cX7_faultPlace 75 = .ok (.invokevirtual 17, 3) := by decide +kernel
theorem dX7_faultPlace_78 : decode cX7_faultPlace 78 = .ok (.bipush 59, 2) := by decide +kernel
theorem dX7_faultPlace_80 : decode cX7_faultPlace 80 = .ok (.if_icmp .ne 9, 3) := by decide +kernel
theorem dX7_faultPlace_83 : decode cX7_faultPlace 83 = .ok (.iload_n 2, 1) := by decide +kernel
theorem dX7_faultPlace_84 : decode cX7_faultPlace 84 = .ok (.bipush 12, 2) := by decide +kernel
theorem dX7_faultPlace_86 : decode cX7_faultPlace 86 = .ok (.if_icmp .ne 6, 3) := by decide +kernel
theorem dX7_faultPlace_89 : decode cX7_faultPlace 89 = .ok (.iload 4, 2) := by decide +kernel
theorem dX7_faultPlace_91 : decode cX7_faultPlace 91 = .ok (.ireturn, 1) := by decide +kernel
theorem dX7_faultPlace_92 : decode cX7_faultPlace 92 = .ok (.iload 4, 2) := by decide +kernel
theorem dX7_faultPlace_94 : decode cX7_faultPlace 94 = .ok (.iconst 1, 1) := by decide +kernel
theorem dX7_faultPlace_95 : decode cX7_faultPlace 95 = .ok (.iadd, 1) := by decide +kernel
theorem dX7_faultPlace_96 : decode cX7_faultPlace 96 = .ok (.istore_n 1, 1) := by decide +kernel
theorem dX7_faultPlace_97 : decode cX7_faultPlace 97 = .ok (.iinc 2 1, 3) := by decide +kernel
theorem dX7_faultPlace_100 : decode cX7_faultPlace 100 = .ok (.goto (-96), 3) := by decide +kernel
theorem dX7_faultPlace_103 : decode cX7_faultPlace 103 = .ok (.iload_n 1, 1) := by decide +kernel
theorem dX7_faultPlace_104 : decode cX7_faultPlace 104 = .ok (.ireturn, 1) := by decide +kernel
theorem dX8_init_0 : decode cX8_init 0 = .ok (.aload_n 0, 1) := by decide +kernel
theorem dX8_init_1 : decode cX8_init 1 = .ok (.invokespecial 1, 3) := by decide +kernel
theorem dX8_init_4 : decode cX8_init 4 = .ok (.aload_n 0, 1) := by decide +kernel
theorem dX8_init_5 : decode cX8_init 5 = .ok (.new 7, 3) := by decide +kernel
theorem dX8_init_8 : decode cX8_init 8 = .ok (.dup, 1) := by decide +kernel
theorem dX8_init_9 : decode cX8_init 9 = .ok (.invokespecial 9, 3) := by decide +kernel
theorem dX8_init_12 : decode cX8_init 12 = .ok (.putfield 10, 3) := by decide +kernel
theorem dX8_init_15 : decode cX8_init 15 = .ok (.aload_n 0, 1) := by decide +kernel
theorem dX8_init_16 : decode cX8_init 16 = .ok (.new 7, 3) := by decide +kernel
theorem dX8_init_19 : decode cX8_init 19 = .ok (.dup, 1) := by decide +kernel
theorem dX8_init_20 : decode cX8_init 20 = .ok (.invokespecial 9, 3) := by decide +kernel
theorem dX8_init_23 : decode cX8_init 23 = .ok (.putfield 16, 3) := by decide +kernel
theorem dX8_init_26 : decode cX8_init 26 = .ok (.aload_n 0, 1) := by decide +kernel
theorem dX8_init_27 : decode cX8_init 27 = .ok (.new 19, 3) := by decide +kernel
theorem dX8_init_30 : decode cX8_init 30 = .ok (.dup, 1) := by decide +kernel
theorem dX8_init_31 : decode cX8_init 31 = .ok (.iconst 4, 1) := by decide +kernel
theorem dX8_init_32 : decode cX8_init 32 = .ok (.invokespecial 21, 3) := by decide +kernel
theorem dX8_init_35 : decode cX8_init 35 = .ok (.putfield 24, 3) := by decide +kernel
theorem dX8_init_38 : decode cX8_init 38 = .ok (.aload_n 0, 1) := by decide +kernel
theorem dX8_init_39 : decode cX8_init 39 = .ok (.new 19, 3) := by decide +kernel
theorem dX8_init_42 : decode cX8_init 42 = .ok (.dup, 1) := by decide +kernel
theorem dX8_init_43 : decode cX8_init 43 = .ok (.bipush 8, 2) := by decide +kernel
theorem dX8_init_45 : decode cX8_init 45 = .ok (.invokespecial 21, 3) := by decide +kernel
theorem dX8_init_48 : decode cX8_init 48 = .ok (.putfield 28, 3) := by decide +kernel
theorem dX8_init_51 : decode cX8_init 51 = .ok (.aload_n 0, 1) := by decide +kernel
theorem dX8_init_52 : decode cX8_init 52 = .ok (.new 19, 3) := by decide +kernel
theorem dX8_init_55 : decode cX8_init 55 = .ok (.dup, 1) := by decide +kernel
theorem dX8_init_56 : decode cX8_init 56 = .ok (.bipush 8, 2) := by decide +kernel
theorem dX8_init_58 : decode cX8_init 58 = .ok (.invokespecial 21, 3) := by decide +kernel
theorem dX8_init_61 : decode cX8_init 61 = .ok (.putfield 31, 3) := by decide +kernel
theorem dX8_init_64 : decode cX8_init 64 = .ok (.return_, 1) := by decide +kernel
theorem dX8_ideal_0 : decode cX8_ideal 0 = .ok (.iload_n 1, 1) := by decide +kernel
theorem dX8_ideal_1 : decode cX8_ideal 1 = .ok (.ifCond .ne 10, 3) := by decide +kernel
theorem dX8_ideal_4 : decode cX8_ideal 4 = .ok (.aload_n 0, 1) := by decide +kernel
theorem dX8_ideal_5 : decode cX8_ideal 5 = .ok (.getfield 10, 3) := by decide +kernel
theorem dX8_ideal_8 : decode cX8_ideal 8 = .ok (.goto 7, 3) := by decide +kernel
theorem dX8_ideal_11 : decode cX8_ideal 11 = .ok (.aload_n 0, 1) := by decide +kernel
theorem dX8_ideal_12 : decode cX8_ideal 12 = .ok (.getfield 16, 3) := by decide +kernel
theorem dX8_ideal_15 : decode cX8_ideal 15 = .ok (.areturn, 1) := by decide +kernel
theorem dX8_countGenerators_0 : decode cX8_countGenerators 0 = .ok (.aload_n 0, 1) := by decide +kernel
theorem dX8_countGenerators_1 : decode cX8_countGenerators 1 = .ok (.getfield 10, 3) := by decide +kernel
theorem dX8_countGenerators_4 : decode cX8_countGenerators 4 = .ok (.invokevirtual 34, 3) := by decide +kernel
theorem dX8_countGenerators_7 : decode cX8_countGenerators 7 = .ok (.aload_n 0, 1) := by decide +kernel
theorem dX8_countGenerators_8 : decode cX8_countGenerators 8 = .ok (.getfield 16, 3) := by decide +kernel
theorem dX8_countGenerators_11 : decode cX8_countGenerators 11 = .ok (.invokevirtual 34, 3) := by decide +kernel
theorem dX8_countGenerators_14 : decode cX8_countGenerators 14 = .ok (.iadd, 1) := by decide +kernel
theorem dX8_countGenerators_15 : decode cX8_countGenerators 15 = .ok (.ireturn, 1) := by decide +kernel
theorem dX8_copy_0 : decode cX8_copy 0 = .ok (.aload_n 0, 1) := by decide +kernel
theorem dX8_copy_1 : decode cX8_copy 1 = .ok (.getfield 10, 3) := by decide +kernel
theorem dX8_copy_4 : decode cX8_copy 4 = .ok (.aload_n 1, 1) := by decide +kernel
theorem dX8_copy_5 : decode cX8_copy 5 = .ok (.getfield 10, 3) := by decide +kernel
theorem dX8_copy_8 : decode cX8_copy 8 = .ok (.invokevirtual 38, 3) := by decide +kernel
theorem dX8_copy_11 : decode cX8_copy 11 = .ok (.aload_n 0, 1) := by decide +kernel
theorem dX8_copy_12 : decode cX8_copy 12 = .ok (.getfield 16, 3) := by decide +kernel
theorem dX8_copy_15 : decode cX8_copy 15 = .ok (.aload_n 1, 1) := by decide +kernel
theorem dX8_copy_16 : decode cX8_copy 16 = .ok (.getfield 16, 3) := by decide +kernel
theorem dX8_copy_19 : decode cX8_copy 19 = .ok (.invokevirtual 38, 3) := by decide +kernel
theorem dX8_copy_22 : decode cX8_copy 22 = .ok (.aload_n 0, 1) := by decide +kernel
theorem dX8_copy_23 : decode cX8_copy 23 = .ok (.getfield 24, 3) := by decide +kernel
theorem dX8_copy_26 : decode cX8_copy 26 = .ok (.aload_n 1, 1) := by decide +kernel
theorem dX8_copy_27 : decode cX8_copy 27 = .ok (.getfield 24, 3) := by decide +kernel
theorem dX8_copy_30 : decode cX8_copy 30 = .ok (.invokevirtual 42, 3) := by decide +kernel
theorem dX8_copy_33 : decode cX8_copy 33 = .ok (.aload_n 0, 1) := by decide +kernel
theorem dX8_copy_34 : decode cX8_copy 34 = .ok (.getfield 28, 3) := by decide +kernel
theorem dX8_copy_37 : decode cX8_copy 37 = .ok (.aload_n 1, 1) := by decide +kernel
theorem dX8_copy_38 : decode cX8_copy 38 = .ok (.getfield 28, 3) := by decide +kernel
theorem dX8_copy_41 : decode cX8_copy 41 = .ok (.invokevirtual 42, 3) := by decide +kernel
theorem dX8_copy_44 : decode cX8_copy 44 = .ok (.aload_n 0, 1) := by decide +kernel
theorem dX8_copy_45 : decode cX8_copy 45 = .ok (.getfield 31, 3) := by decide +kernel
theorem dX8_copy_48 : decode cX8_copy 48 = .ok (.aload_n 1, 1) := by decide +kernel
theorem dX8_copy_49 : decode cX8_copy 49 = .ok (.getfield 31, 3) := by decide +kernel
theorem dX8_copy_52 : decode cX8_copy 52 = .ok (.invokevirtual 42, 3) := by decide +kernel
theorem dX8_copy_55 : decode cX8_copy 55 = .ok (.return_, 1) := by decide +kernel
theorem dX9_init_0 : decode cX9_init 0 = .ok (.aload_n 0, 1) := by decide +kernel
theorem dX9_init_1 : decode cX9_init 1 = .ok (.invokespecial 3, 3) := by decide +kernel
theorem dX9_init_4 : decode cX9_init 4 = .ok (.aload_n 0, 1) := by decide +kernel
theorem dX9_init_5 : decode cX9_init 5 = .ok (.new 9, 3) := by decide +kernel
theorem dX9_init_8 : decode cX9_init 8 = .ok (.dup, 1) := by decide +kernel
theorem dX9_init_9 : decode cX9_init 9 = .ok (.invokespecial 11, 3) := by decide +kernel
theorem dX9_init_12 : decode cX9_init 12 = .ok (.putfield 12, 3) := by decide +kernel
theorem dX9_init_15 : decode cX9_init 15 = .ok (.aload_n 0, 1) := by decide +kernel
theorem dX9_init_16 : decode cX9_init 16 = .ok (.new 9, 3) := by decide +kernel
theorem dX9_init_19 : decode cX9_init 19 = .ok (.dup, 1) := by decide +kernel
theorem dX9_init_20 : decode cX9_init 20 = .ok (.invokespecial 11, 3) := by decide +kernel
theorem dX9_init_23 : decode cX9_init 23 = .ok (.putfield 18, 3) := by decide +kernel
theorem dX9_init_26 : decode cX9_init 26 = .ok (.aload_n 0, 1) := by decide +kernel
theorem dX9_init_27 : decode cX9_init 27 = .ok (.iconst 0, 1) := by decide +kernel
theorem dX9_init_28 : decode cX9_init 28 = .ok (.putfield 21, 3) := by decide +kernel
theorem dX9_init_31 : decode cX9_init 31 = .ok (.aload_n 0, 1) := by decide +kernel
theorem dX9_init_32 : decode cX9_init 32 = .ok (.new 25, 3) := by decide +kernel
theorem dX9_init_35 : decode cX9_init 35 = .ok (.dup, 1) := by decide +kernel
theorem dX9_init_36 : decode cX9_init 36 = .ok (.invokespecial 27, 3) := by decide +kernel
theorem dX9_init_39 : decode cX9_init 39 = .ok (.putfield 28, 3) := by decide +kernel
theorem dX9_init_42 : decode cX9_init 42 = .ok (.aload_n 0, 1) := by decide +kernel
theorem dX9_init_43 : decode cX9_init 43 = .ok (.new 32, 3) := by decide +kernel
theorem dX9_init_46 : decode cX9_init 46 = .ok (.dup, 1) := by decide +kernel
theorem dX9_init_47 : decode cX9_init 47 = .ok (.invokespecial 34, 3) := by decide +kernel
theorem dX9_init_50 : decode cX9_init 50 = .ok (.putfield 35, 3) := by decide +kernel
theorem dX9_init_53 : decode cX9_init 53 = .ok (.aload_n 0, 1) := by decide +kernel
theorem dX9_init_54 : decode cX9_init 54 = .ok (.bipush 6, 2) := by decide +kernel
theorem dX9_init_56 : decode cX9_init 56 = .ok (.anewarray 39, 3) := by decide +kernel
theorem dX9_init_59 : decode cX9_init 59 = .ok (.putfield 41, 3) := by decide +kernel
theorem dX9_init_62 : decode cX9_init 62 = .ok (.iconst 0, 1) := by decide +kernel
theorem dX9_init_63 : decode cX9_init 63 = .ok (.istore_n 1, 1) := by decide +kernel
theorem dX9_init_64 : decode cX9_init 64 = .ok (.iload_n 1, 1) := by decide +kernel
theorem dX9_init_65 : decode cX9_init 65 = .ok (.bipush 6, 2) := by decide +kernel
theorem dX9_init_67 : decode cX9_init 67 = .ok (.if_icmp .ge 22, 3) := by decide +kernel
theorem dX9_init_70 : decode cX9_init 70 = .ok (.aload_n 0, 1) := by decide +kernel
theorem dX9_init_71 : decode cX9_init 71 = .ok (.getfield 41, 3) := by decide +kernel
theorem dX9_init_74 : decode cX9_init 74 = .ok (.iload_n 1, 1) := by decide +kernel
theorem dX9_init_75 : decode cX9_init 75 = .ok (.new 39, 3) := by decide +kernel
theorem dX9_init_78 : decode cX9_init 78 = .ok (.dup, 1) := by decide +kernel
theorem dX9_init_79 : decode cX9_init 79 = .ok (.invokespecial 45, 3) := by decide +kernel
theorem dX9_init_82 : decode cX9_init 82 = .ok (.aastore, 1) := by decide +kernel
theorem dX9_init_83 : decode cX9_init 83 = .ok (.iinc 1 1, 3) := by decide +kernel
theorem dX9_init_86 : decode cX9_init 86 = .ok (.goto (-22), 3) := by decide +kernel
theorem dX9_init_89 : decode cX9_init 89 = .ok (.aload_n 0, 1) := by decide +kernel
theorem dX9_init_90 : decode cX9_init 90 = .ok (.new 46, 3) := by decide +kernel
theorem dX9_init_93 : decode cX9_init 93 = .ok (.dup, 1) := by decide +kernel
theorem dX9_init_94 : decode cX9_init 94 = .ok (.invokespecial 48, 3) := by decide +kernel
theorem dX9_init_97 : decode cX9_init 97 = .ok (.putfield 49, 3) := by decide +kernel
theorem dX9_init_100 : decode cX9_init 100 = .ok (.aload_n 0, 1) := by decide +kernel
theorem dX9_init_101 : decode cX9_init 101 = .ok (.new 53, 3) := by decide +kernel
theorem dX9_init_104 : decode cX9_init 104 = .ok (.dup, 1) := by decide +kernel
theorem dX9_init_105 : decode cX9_init 105 = .ok (.invokespecial 55, 3) := by decide +kernel
theorem dX9_init_108 : decode cX9_init 108 = .ok (.putfield 56, 3) := by decide +kernel
theorem dX9_init_111 : decode cX9_init 111 = .ok (.aload_n 0, 1) := by decide +kernel
theorem dX9_init_112 : decode cX9_init 112 = .ok (.new 60, 3) := by decide +kernel
theorem dX9_init_115 : decode cX9_init 115 = .ok (.dup, 1) := by decide +kernel
theorem dX9_init_116 : decode cX9_init 116 = .ok (.invokespecial 62, 3) := by decide +kernel
theorem dX9_init_119 : decode cX9_init 119 = .ok (.putfield 63, 3) := by decide +kernel
theorem dX9_init_122 : decode cX9_init 122 = .ok (.aload_n 0, 1) := by decide +kernel
theorem dX9_init_123 : decode cX9_init 123 = .ok (.new 67, 3) := by decide +kernel
theorem dX9_init_126 : decode cX9_init 126 = .ok (.dup, 1) := by decide +kernel
theorem dX9_init_127 : decode cX9_init 127 = .ok (.invokespecial 69, 3) := by decide +kernel
theorem dX9_init_130 : decode cX9_init 130 = .ok (.putfield 70, 3) := by decide +kernel
theorem dX9_init_133 : decode cX9_init 133 = .ok (.aload_n 0, 1) := by decide +kernel
theorem dX9_init_134 : decode cX9_init 134 = .ok (.new 67, 3) := by decide +kernel
theorem dX9_init_137 : decode cX9_init 137 = .ok (.dup, 1) := by decide +kernel
theorem dX9_init_138 : decode cX9_init 138 = .ok (.invokespecial 69, 3) := by decide +kernel
theorem dX9_init_141 : decode cX9_init 141 = .ok (.putfield 74, 3) := by decide +kernel
theorem dX9_init_144 : decode cX9_init 144 = .ok (.return_, 1) := by decide +kernel
theorem dX9_generate_0 : decode cX9_generate 0 = .ok (.iload_n 1, 1) := by decide +kernel
theorem dX9_generate_1 : decode cX9_generate 1 = .ok (.invokestatic 77, 3) := by decide +kernel
theorem dX9_generate_4 : decode cX9_generate 4 = .ok (.ifCond .eq 5, 3) := by decide +kernel
theorem dX9_generate_7 : decode cX9_generate 7 = .ok (.iconst (-1), 1) := by decide +kernel
theorem dX9_generate_8 : decode cX9_generate 8 = .ok (.ireturn, 1) := by decide +kernel
theorem dX9_generate_9 : decode cX9_generate 9 = .ok (.iload_n 2, 1) := by decide +kernel
theorem dX9_generate_10 : decode cX9_generate 10 = .ok (.iload_n 3, 1) := by decide +kernel
theorem dX9_generate_11 : decode cX9_generate 11 = .ok (.invokestatic 81, 3) := by decide +kernel
theorem dX9_generate_14 : decode cX9_generate 14 = .ok (.ifCond .eq 6, 3) := by decide +kernel
theorem dX9_generate_17 : decode cX9_generate 17 = .ok (.bipush (-2), 2) := by decide +kernel
theorem dX9_generate_19 : decode cX9_generate 19 = .ok (.ireturn, 1) := by decide +kernel
theorem dX9_generate_20 : decode cX9_generate 20 = .ok (.aload_n 0, 1) := by decide +kernel
theorem dX9_generate_21 : decode cX9_generate 21 = .ok (.getfield 12, 3) := by decide +kernel
theorem dX9_generate_24 : decode cX9_generate 24 = .ok (.iload_n 1, 1) := by decide +kernel
theorem dX9_generate_25 : decode cX9_generate 25 = .ok (.invokevirtual 85, 3) := by decide +kernel
theorem dX9_generate_28 : decode cX9_generate 28 = .ok (.astore 4, 2) := by decide +kernel
theorem dX9_generate_30 : decode cX9_generate 30 = .ok (.aload 4, 2) := by decide +kernel
theorem dX9_generate_32 : decode cX9_generate 32 = .ok (.iload_n 2, 1) := by decide +kernel
theorem dX9_generate_33 : decode cX9_generate 33 = .ok (.iload_n 3, 1) := by decide +kernel
theorem dX9_generate_34 : decode cX9_generate 34 = .ok (.invokevirtual 89, 3) := by decide +kernel
theorem dX9_generate_37 : decode cX9_generate 37 = .ok (.ifCond .lt 6, 3) := by decide +kernel
theorem dX9_generate_40 : decode cX9_generate 40 = .ok (.bipush (-3), 2) := by decide +kernel
theorem dX9_generate_42 : decode cX9_generate 42 = .ok (.ireturn, 1) := by decide +kernel
theorem dX9_generate_43 : decode cX9_generate 43 = .ok (.aload 4, 2) := by decide +kernel
theorem dX9_generate_45 : decode cX9_generate 45 = .ok (.invokevirtual 93, 3) := by decide +kernel
theorem dX9_generate_48 : decode cX9_generate 48 = .ok (.bipush 6, 2) := by decide +kernel
theorem dX9_generate_50 : decode cX9_generate 50 = .ok (.if_icmp .lt 6, 3) := by decide +kernel
theorem dX9_generate_53 : decode cX9_generate 53 = .ok (.bipush (-4), 2) := by decide +kernel
theorem dX9_generate_55 : decode cX9_generate 55 = .ok (.ireturn, 1) := by decide +kernel
theorem dX9_generate_56 : decode cX9_generate 56 = .ok (.aload_n 0, 1) := by decide +kernel
theorem dX9_generate_57 : decode cX9_generate 57 = .ok (.getfield 28, 3) := by decide +kernel
theorem dX9_generate_60 : decode cX9_generate 60 = .ok (.iload_n 1, 1) := by decide +kernel
theorem dX9_generate_61 : decode cX9_generate 61 = .ok (.aload 4, 2) := by decide +kernel
theorem dX9_generate_63 : decode cX9_generate 63 = .ok (.invokevirtual 97, 3) := by decide +kernel
theorem dX9_generate_66 : decode cX9_generate 66 = .ok (.aload 4, 2) := by decide +kernel
theorem dX9_generate_68 : decode cX9_generate 68 = .ok (.iload_n 2, 1) := by decide +kernel
theorem dX9_generate_69 : decode cX9_generate 69 = .ok (.iload_n 3, 1) := by decide +kernel
theorem dX9_generate_70 : decode cX9_generate 70 = .ok (.invokevirtual 101, 3) := by decide +kernel
theorem dX9_generate_73 : decode cX9_generate 73 = .ok (.aload 4, 2) := by decide +kernel
theorem dX9_generate_75 : decode cX9_generate 75 = .ok (.invokevirtual 93, 3) := by decide +kernel
theorem dX9_generate_78 : decode cX9_generate 78 = .ok (.ireturn, 1) := by decide +kernel
theorem dX9_drop_0 : decode cX9_drop 0 = .ok (.aload_n 0, 1) := by decide +kernel
theorem dX9_drop_1 : decode cX9_drop 1 = .ok (.iload_n 1, 1) := by decide +kernel
theorem dX9_drop_2 : decode cX9_drop 2 = .ok (.iload_n 2, 1) := by decide +kernel
theorem dX9_drop_3 : decode cX9_drop 3 = .ok (.invokevirtual 105, 3) := by decide +kernel
theorem dX9_drop_6 : decode cX9_drop 6 = .ok (.ifCond .eq 5, 3) := by decide +kernel
theorem dX9_drop_9 : decode cX9_drop 9 = .ok (.iconst (-1), 1) := by decide +kernel
theorem dX9_drop_10 : decode cX9_drop 10 = .ok (.ireturn, 1) := by decide +kernel
theorem dX9_drop_11 : decode cX9_drop 11 = .ok (.aload_n 0, 1) := by decide +kernel
theorem dX9_drop_12 : decode cX9_drop 12 = .ok (.getfield 12, 3) := by decide +kernel
theorem dX9_drop_15 : decode cX9_drop 15 = .ok (.iload_n 1, 1) := by decide +kernel
theorem dX9_drop_16 : decode cX9_drop 16 = .ok (.invokevirtual 85, 3) := by decide +kernel
theorem dX9_drop_19 : decode cX9_drop 19 = .ok (.astore_n 3, 1) := by decide +kernel
theorem dX9_drop_20 : decode cX9_drop 20 = .ok (.aload_n 0, 1) := by decide +kernel
theorem dX9_drop_21 : decode cX9_drop 21 = .ok (.getfield 28, 3) := by decide +kernel
theorem dX9_drop_24 : decode cX9_drop 24 = .ok (.iload_n 1, 1) := by decide +kernel
theorem dX9_drop_25 : decode cX9_drop 25 = .ok (.aload_n 3, 1) := by decide +kernel
theorem dX9_drop_26 : decode cX9_drop 26 = .ok (.invokevirtual 97, 3) := by decide +kernel
theorem dX9_drop_29 : decode cX9_drop 29 = .ok (.aload_n 3, 1) := by decide +kernel
theorem dX9_drop_30 : decode cX9_drop 30 = .ok (.iload_n 2, 1) := by decide +kernel
theorem dX9_drop_31 : decode cX9_drop 31 = .ok (.invokevirtual 108, 3) := by decide +kernel
theorem dX9_drop_34 : decode cX9_drop 34 = .ok (.aload_n 3, 1) := by decide +kernel
theorem dX9_drop_35 : decode cX9_drop 35 = .ok (.invokevirtual 93, 3) := by decide +kernel
theorem dX9_drop_38 : decode cX9_drop 38 = .ok (.ireturn, 1) := by decide +kernel
theorem dX9_clear_0 : decode cX9_clear 0 = .ok (.iload_n 1, 1) := by decide +kernel
theorem dX9_clear_1 : decode cX9_clear 1 = .ok (.invokestatic 77, 3) := by decide +kernel
theorem dX9_clear_4 : decode cX9_clear 4 = .ok (.ifCond .eq 5, 3) := by decide +kernel
theorem dX9_clear_7 : decode cX9_clear 7 = .ok (.iconst (-1), 1) := by decide +kernel
theorem dX9_clear_8 : decode cX9_clear 8 = .ok (.ireturn, 1) := by decide +kernel
theorem dX9_clear_9 : decode cX9_clear 9 = .ok (.aload_n 0, 1) := by decide +kernel
theorem dX9_clear_10 : decode cX9_clear 10 = .ok (.getfield 12, 3) := by decide +kernel
theorem dX9_clear_13 : decode cX9_clear 13 = .ok (.iload_n 1, 1) := by decide +kernel
theorem dX9_clear_14 : decode cX9_clear 14 = .ok (.invokevirtual 85, 3) := by decide +kernel
theorem dX9_clear_17 : decode cX9_clear 17 = .ok (.astore_n 2, 1) := by decide +kernel
theorem dX9_clear_18 : decode cX9_clear 18 = .ok (.aload_n 2, 1) := by decide +kernel
theorem dX9_clear_19 : decode cX9_clear 19 = .ok (.invokevirtual 93, 3) := by decide +kernel
theorem dX9_clear_22 : decode cX9_clear 22 = .ok (.istore_n 3, 1) := by decide +kernel
theorem dX9_clear_23 : decode cX9_clear 23 = .ok (.iload_n 3, 1) := by decide +kernel
theorem dX9_clear_24 : decode cX9_clear 24 = .ok (.ifCond .ne 6, 3) := by decide +kernel
theorem dX9_clear_27 : decode cX9_clear 27 = .ok (.bipush (-3), 2) := by decide +kernel
theorem dX9_clear_29 : decode cX9_clear 29 = .ok (.ireturn, 1) := by decide +kernel
theorem dX9_clear_30 : decode cX9_clear 30 = .ok (.aload_n 0, 1) := by decide +kernel
theorem dX9_clear_31 : decode cX9_clear 31 = .ok (.getfield 28, 3) := by decide +kernel
theorem dX9_clear_34 : decode cX9_clear 34 = .ok (.iload_n 1, 1) := by decide +kernel
theorem dX9_clear_35 : decode cX9_clear 35 = .ok (.aload_n 2, 1) := by decide +kernel
theorem dX9_clear_36 : decode cX9_clear 36 = .ok (.invokevirtual 97, 3) := by decide +kernel
theorem dX9_clear_39 : decode cX9_clear 39 = .ok (.aload_n 2, 1) := by decide +kernel
theorem dX9_clear_40 : decode cX9_clear 40 = .ok (.invokevirtual 112, 3) := by decide +kernel
theorem dX9_clear_43 : decode cX9_clear 43 = .ok (.iload_n 3, 1) := by decide +kernel
theorem dX9_clear_44 : decode cX9_clear 44 = .ok (.ireturn, 1) := by decide +kernel
theorem dX9_merge_0 : decode cX9_merge 0 = .ok (.iload_n 1, 1) := by decide +kernel
theorem dX9_merge_1 : decode cX9_merge 1 = .ok (.invokestatic 77, 3) := by decide +kernel
theorem dX9_merge_4 : decode cX9_merge 4 = .ok (.ifCond .eq 5, 3) := by decide +kernel
theorem dX9_merge_7 : decode cX9_merge 7 = .ok (.iconst (-1), 1) := by decide +kernel
theorem dX9_merge_8 : decode cX9_merge 8 = .ok (.ireturn, 1) := by decide +kernel
theorem dX9_merge_9 : decode cX9_merge 9 = .ok (.aload_n 0, 1) := by decide +kernel
theorem dX9_merge_10 : decode cX9_merge 10 = .ok (.getfield 12, 3) := by decide +kernel
theorem dX9_merge_13 : decode cX9_merge 13 = .ok (.iload_n 1, 1) := by decide +kernel
theorem dX9_merge_14 : decode cX9_merge 14 = .ok (.invokevirtual 85, 3) := by decide +kernel
theorem dX9_merge_17 : decode cX9_merge 17 = .ok (.astore_n 2, 1) := by decide +kernel
theorem dX9_merge_18 : decode cX9_merge 18 = .ok (.aload_n 0, 1) := by decide +kernel
theorem dX9_merge_19 : decode cX9_merge 19 = .ok (.getfield 12, 3) := by decide +kernel
theorem dX9_merge_22 : decode cX9_merge 22 = .ok (.iconst 1, 1) := by decide +kernel
theorem dX9_merge_23 : decode cX9_merge 23 = .ok (.iload_n 1, 1) := by decide +kernel
theorem dX9_merge_24 : decode cX9_merge 24 = .ok (.isub, 1) := by decide +kernel
theorem dX9_merge_25 : decode cX9_merge 25 = .ok (.invokevirtual 85, 3) := by decide +kernel
theorem dX9_merge_28 : decode cX9_merge 28 = .ok (.astore_n 3, 1) := by decide +kernel
theorem dX9_merge_29 : decode cX9_merge 29 = .ok (.aload_n 2, 1) := by decide +kernel
theorem dX9_merge_30 : decode cX9_merge 30 = .ok (.invokevirtual 93, 3) := by decide +kernel
theorem dX9_merge_33 : decode cX9_merge 33 = .ok (.aload_n 3, 1) := by decide +kernel
theorem dX9_merge_34 : decode cX9_merge 34 = .ok (.aload_n 2, 1) := by decide +kernel
theorem dX9_merge_35 : decode cX9_merge 35 = .ok (.invokevirtual 115, 3) := by decide +kernel
theorem dX9_merge_38 : decode cX9_merge 38 = .ok (.iadd, 1) := by decide +kernel
theorem dX9_merge_39 : decode cX9_merge 39 = .ok (.bipush 6, 2) := by decide +kernel
theorem dX9_merge_41 : decode cX9_merge 41 = .ok (.if_icmp .le 6, 3) := by decide +kernel
theorem dX9_merge_44 : decode cX9_merge 44 = .ok (.bipush (-4), 2) := by decide +kernel
theorem dX9_merge_46 : decode cX9_merge 46 = .ok (.ireturn, 1) := by decide +kernel
theorem dX9_merge_47 : decode cX9_merge 47 = .ok (.aload_n 0, 1) := by decide +kernel
theorem dX9_merge_48 : decode cX9_merge 48 = .ok (.getfield 28, 3) := by decide +kernel
theorem dX9_merge_51 : decode cX9_merge 51 = .ok (.iload_n 1, 1) := by decide +kernel
theorem dX9_merge_52 : decode cX9_merge 52 = .ok (.aload_n 2, 1) := by decide +kernel
theorem dX9_merge_53 : decode cX9_merge 53 = .ok (.invokevirtual 97, 3) := by decide +kernel
theorem dX9_merge_56 : decode cX9_merge 56 = .ok (.iconst 0, 1) := by decide +kernel
theorem dX9_merge_57 : decode cX9_merge 57 = .ok (.istore 4, 2) := by decide +kernel
theorem dX9_merge_59 : decode cX9_merge 59 = .ok (.iload 4, 2) := by decide +kernel
theorem dX9_merge_61 : decode cX9_merge 61 = .ok (.aload_n 3, 1) := by decide +kernel
theorem dX9_merge_62 : decode cX9_merge 62 = .ok (.invokevirtual 93, 3) := by decide +kernel
theorem dX9_merge_65 : decode cX9_merge 65 = .ok (.if_icmp .ge 25, 3) := by decide +kernel
theorem dX9_merge_68 : decode cX9_merge 68 = .ok (.aload_n 2, 1) := by decide +kernel
theorem dX9_merge_69 : decode cX9_merge 69 = .ok (.aload_n 3, 1) := by decide +kernel
theorem dX9_merge_70 : decode cX9_merge 70 = .ok (.iload 4, 2) := by decide +kernel
theorem dX9_merge_72 : decode cX9_merge 72 = .ok (.invokevirtual 119, 3) := by decide +kernel
theorem dX9_merge_75 : decode cX9_merge 75 = .ok (.aload_n 3, 1) := by decide +kernel
theorem dX9_merge_76 : decode cX9_merge 76 = .ok (.iload 4, 2) := by decide +kernel
theorem dX9_merge_78 : decode cX9_merge 78 = .ok (.invokevirtual 123, 3) := by decide +kernel
theorem dX9_merge_81 : decode cX9_merge 81 = .ok (.invokevirtual 126, 3) := by decide +kernel
theorem dX9_merge_84 : decode cX9_merge 84 = .ok (.iinc 4 1, 3) := by decide +kernel
theorem dX9_merge_87 : decode cX9_merge 87 = .ok (.goto (-28), 3) := by decide +kernel
theorem dX9_merge_90 : decode cX9_merge 90 = .ok (.aload_n 2, 1) := by decide +kernel
theorem dX9_merge_91 : decode cX9_merge 91 = .ok (.invokevirtual 93, 3) := by decide +kernel
theorem dX9_merge_94 : decode cX9_merge 94 = .ok (.ireturn, 1) := by decide +kernel
theorem dX9_close_0 : decode cX9_close 0 = .ok (.iload_n 1, 1) := by decide +kernel
theorem dX9_close_1 : decode cX9_close 1 = .ok (.invokestatic 77, 3) := by decide +kernel
theorem dX9_close_4 : decode cX9_close 4 = .ok (.ifCond .eq 5, 3) := by decide +kernel
theorem dX9_close_7 : decode cX9_close 7 = .ok (.iconst (-1), 1) := by decide +kernel
theorem dX9_close_8 : decode cX9_close 8 = .ok (.ireturn, 1) := by decide +kernel
theorem dX9_close_9 : decode cX9_close 9 = .ok (.aload_n 0, 1) := by decide +kernel
theorem dX9_close_10 : decode cX9_close 10 = .ok (.getfield 12, 3) := by decide +kernel
theorem dX9_close_13 : decode cX9_close 13 = .ok (.iload_n 1, 1) := by decide +kernel
theorem dX9_close_14 : decode cX9_close 14 = .ok (.invokevirtual 85, 3) := by decide +kernel
theorem dX9_close_17 : decode cX9_close 17 = .ok (.astore_n 2, 1) := by decide +kernel
theorem dX9_close_18 : decode cX9_close 18 = .ok (.aload_n 2, 1) := by decide +kernel
theorem dX9_close_19 : decode cX9_close 19 = .ok (.invokevirtual 93, 3) := by decide +kernel
theorem dX9_close_22 : decode cX9_close 22 = .ok (.ifCond .ne 6, 3) := by decide +kernel
theorem dX9_close_25 : decode cX9_close 25 = .ok (.bipush (-3), 2) := by decide +kernel
theorem dX9_close_27 : decode cX9_close 27 = .ok (.ireturn, 1) := by decide +kernel
theorem dX9_close_28 : decode cX9_close 28 = .ok (.aload_n 0, 1) := by decide +kernel
theorem dX9_close_29 : decode cX9_close 29 = .ok (.getfield 56, 3) := by decide +kernel
theorem dX9_close_32 : decode cX9_close 32 = .ok (.aload_n 2, 1) := by decide +kernel
theorem dX9_close_33 : decode cX9_close 33 = .ok (.invokevirtual 129, 3) := by decide +kernel
theorem dX9_close_36 : decode cX9_close 36 = .ok (.aload_n 0, 1) := by decide +kernel
theorem dX9_close_37 : decode cX9_close 37 = .ok (.getfield 56, 3) := by decide +kernel
theorem dX9_close_40 : decode cX9_close 40 = .ok (.aload_n 0, 1) := by decide +kernel
theorem dX9_close_41 : decode cX9_close 41 = .ok (.getfield 49, 3) := by decide +kernel
theorem dX9_close_44 : decode cX9_close 44 = .ok (.invokevirtual 133, 3) := by decide +kernel
theorem dX9_close_47 : decode cX9_close 47 = .ok (.bipush 6, 2) := by decide +kernel
theorem dX9_close_49 : decode cX9_close 49 = .ok (.if_icmp .le 6, 3) := by decide +kernel
theorem dX9_close_52 : decode cX9_close 52 = .ok (.bipush (-4), 2) := by decide +kernel
theorem dX9_close_54 : decode cX9_close 54 = .ok (.ireturn, 1) := by decide +kernel
theorem dX9_close_55 : decode cX9_close 55 = .ok (.aload_n 0, 1) := by decide +kernel
theorem dX9_close_56 : decode cX9_close 56 = .ok (.getfield 28, 3) := by decide +kernel
theorem dX9_close_59 : decode cX9_close 59 = .ok (.iload_n 1, 1) := by decide +kernel
theorem dX9_close_60 : decode cX9_close 60 = .ok (.aload_n 2, 1) := by decide +kernel
theorem dX9_close_61 : decode cX9_close 61 = .ok (.invokevirtual 97, 3) := by decide +kernel
theorem dX9_close_64 : decode cX9_close 64 = .ok (.aload_n 2, 1) := by decide +kernel
theorem dX9_close_65 : decode cX9_close 65 = .ok (.aload_n 0, 1) := by decide +kernel
theorem dX9_close_66 : decode cX9_close 66 = .ok (.getfield 49, 3) := by decide +kernel
theorem dX9_close_69 : decode cX9_close 69 = .ok (.invokevirtual 136, 3) := by decide +kernel
theorem dX9_close_72 : decode cX9_close 72 = .ok (.aload_n 2, 1) := by decide +kernel
theorem dX9_close_73 : decode cX9_close 73 = .ok (.invokevirtual 93, 3) := by decide +kernel
theorem dX9_close_76 : decode cX9_close 76 = .ok (.ireturn, 1) := by decide +kernel
theorem dX9_back_0 : decode cX9_back 0 = .ok (.aload_n 0, 1) := by decide +kernel
theorem dX9_back_1 : decode cX9_back 1 = .ok (.getfield 28, 3) := by decide +kernel
theorem dX9_back_4 : decode cX9_back 4 = .ok (.invokevirtual 139, 3) := by decide +kernel
theorem dX9_back_7 : decode cX9_back 7 = .ok (.ifCond .ne 6, 3) := by decide +kernel
theorem dX9_back_10 : decode cX9_back 10 = .ok (.bipush (-3), 2) := by decide +kernel
theorem dX9_back_12 : decode cX9_back 12 = .ok (.ireturn, 1) := by decide +kernel
theorem dX9_back_13 : decode cX9_back 13 = .ok (.aload_n 0, 1) := by decide +kernel
theorem dX9_back_14 : decode cX9_back 14 = .ok (.getfield 28, 3) := by decide +kernel
theorem dX9_back_17 : decode cX9_back 17 = .ok (.aload_n 0, 1) := by decide +kernel
theorem dX9_back_18 : decode cX9_back 18 = .ok (.getfield 12, 3) := by decide +kernel
theorem dX9_back_21 : decode cX9_back 21 = .ok (.invokevirtual 140, 3) := by decide +kernel
theorem dX9_back_24 : decode cX9_back 24 = .ok (.aload_n 0, 1) := by decide +kernel
theorem dX9_back_25 : decode cX9_back 25 = .ok (.getfield 28, 3) := by decide +kernel
theorem dX9_back_28 : decode cX9_back 28 = .ok (.invokevirtual 139, 3) := by decide +kernel
theorem dX9_back_31 : decode cX9_back 31 = .ok (.ireturn, 1) := by decide +kernel
theorem dX9_feed_0 : decode cX9_feed 0 = .ok (.iload_n 1, 1) := by decide +kernel
theorem dX9_feed_1 : decode cX9_feed 1 = .ok (.ifCond .lt 9, 3) := by decide +kernel
theorem dX9_feed_4 : decode cX9_feed 4 = .ok (.iload_n 1, 1) := by decide +kernel
theorem dX9_feed_5 : decode cX9_feed 5 = .ok (.bipush 127, 2) := by decide +kernel
theorem dX9_feed_7 : decode cX9_feed 7 = .ok (.if_icmp .le 6, 3) := by decide +kernel
theorem dX9_feed_10 : decode cX9_feed 10 = .ok (.bipush (-2), 2) := by decide +kernel
theorem dX9_feed_12 : decode cX9_feed 12 = .ok (.ireturn, 1) := by decide +kernel
theorem dX9_feed_13 : decode cX9_feed 13 = .ok (.aload_n 0, 1) := by decide +kernel
theorem dX9_feed_14 : decode cX9_feed 14 = .ok (.getfield 35, 3) := by decide +kernel
theorem dX9_feed_17 : decode cX9_feed 17 = .ok (.invokevirtual 144, 3) := by decide +kernel
theorem dX9_feed_20 : decode cX9_feed 20 = .ok (.ifCond .eq 6, 3) := by decide +kernel
theorem dX9_feed_23 : decode cX9_feed 23 = .ok (.bipush (-4), 2) := by decide +kernel
theorem dX9_feed_25 : decode cX9_feed 25 = .ok (.ireturn, 1) := by decide +kernel
theorem dX9_feed_26 : decode cX9_feed 26 = .ok (.aload_n 0, 1) := by decide +kernel
theorem dX9_feed_27 : decode cX9_feed 27 = .ok (.getfield 35, 3) := by decide +kernel
theorem dX9_feed_30 : decode cX9_feed 30 = .ok (.iload_n 1, 1) := by decide +kernel
theorem dX9_feed_31 : decode cX9_feed 31 = .ok (.invokevirtual 148, 3) := by decide +kernel
theorem dX9_feed_34 : decode cX9_feed 34 = .ok (.aload_n 0, 1) := by decide +kernel
theorem dX9_feed_35 : decode cX9_feed 35 = .ok (.getfield 35, 3) := by decide +kernel
theorem dX9_feed_38 : decode cX9_feed 38 = .ok (.invokevirtual 150, 3) := by decide +kernel
theorem dX9_feed_41 : decode cX9_feed 41 = .ok (.ireturn, 1) := by decide +kernel
theorem dX9_read_0 : decode cX9_read 0 = .ok (.aload_n 0, 1) := by decide +kernel
theorem dX9_read_1 : decode cX9_read 1 = .ok (.getfield 35, 3) := by decide +kernel
theorem dX9_read_4 : decode cX9_read 4 = .ok (.invokevirtual 151, 3) := by decide +kernel
theorem dX9_read_7 : decode cX9_read 7 = .ok (.istore_n 1, 1) := by decide +kernel
theorem dX9_read_8 : decode cX9_read 8 = .ok (.iload_n 1, 1) := by decide +kernel
theorem dX9_read_9 : decode cX9_read 9 = .ok (.ifCond .lt 10, 3) := by decide +kernel
theorem dX9_read_12 : decode cX9_read 12 = .ok (.bipush (-10), 2) := by decide +kernel
theorem dX9_read_14 : decode cX9_read 14 = .ok (.iload_n 1, 1) := by decide +kernel
theorem dX9_read_15 : decode cX9_read 15 = .ok (.isub, 1) := by decide +kernel
theorem dX9_read_16 : decode cX9_read 16 = .ok (.goto 7, 3) := by decide +kernel
theorem dX9_read_19 : decode cX9_read 19 = .ok (.aload_n 0, 1) := by decide +kernel
theorem dX9_read_20 : decode cX9_read 20 = .ok (.invokevirtual 154, 3) := by decide +kernel
theorem dX9_read_23 : decode cX9_read 23 = .ok (.istore_n 2, 1) := by decide +kernel
theorem dX9_read_24 : decode cX9_read 24 = .ok (.aload_n 0, 1) := by decide +kernel
theorem dX9_read_25 : decode cX9_read 25 = .ok (.getfield 35, 3) := by decide +kernel
theorem dX9_read_28 : decode cX9_read 28 = .ok (.invokevirtual 157, 3) := by decide +kernel
theorem dX9_read_31 : decode cX9_read 31 = .ok (.iload_n 2, 1) := by decide +kernel
theorem dX9_read_32 : decode cX9_read 32 = .ok (.ireturn, 1) := by decide +kernel
theorem dX9_doClauses_0 : decode cX9_doClauses 0 = .ok (.iconst 0, 1) := by decide +kernel
theorem dX9_doClauses_1 : decode cX9_doClauses 1 = .ok (.istore_n 1, 1) := by decide +kernel
theorem dX9_doClauses_2 : decode cX9_doClauses 2 = .ok (.iconst 0, 1) := by decide +kernel
theorem dX9_doClauses_3 : decode cX9_doClauses 3 = .ok (.istore_n 2, 1) := by decide +kernel
theorem dX9_doClauses_4 : decode cX9_doClauses 4 = .ok (.iload_n 2, 1) := by decide +kernel
theorem dX9_doClauses_5 : decode cX9_doClauses 5 = .ok (.aload_n 0, 1) := by decide +kernel
theorem dX9_doClauses_6 : decode cX9_doClauses 6 = .ok (.getfield 35, 3) := by decide +kernel
theorem dX9_doClauses_9 : decode cX9_doClauses 9 = .ok (.invokevirtual 150, 3) := by decide +kernel
theorem dX9_doClauses_12 : decode cX9_doClauses 12 = .ok (.if_icmp .ge 33, 3) := by decide +kernel
theorem dX9_doClauses_15 : decode cX9_doClauses 15 = .ok (.aload_n 0, 1) := by decide +kernel
theorem dX9_doClauses_16 : decode cX9_doClauses 16 = .ok (.iload_n 2, 1) := by decide +kernel
theorem dX9_doClauses_17 : decode cX9_doClauses 17 = .ok (.invokevirtual 158, 3) := by decide +kernel
theorem dX9_doClauses_20 : decode cX9_doClauses 20 = .ok (.ifCond .lt 6, 3) := by decide +kernel
theorem dX9_doClauses_23 : decode cX9_doClauses 23 = .ok (.iinc 1 1, 3) := by decide +kernel
theorem dX9_doClauses_26 : decode cX9_doClauses 26 = .ok (.iload_n 2, 1) := by decide +kernel
theorem dX9_doClauses_27 : decode cX9_doClauses 27 = .ok (.aload_n 0, 1) := by decide +kernel
theorem dX9_doClauses_28 : decode cX9_doClauses 28 = .ok (.getfield 35, 3) := by decide +kernel
theorem dX9_doClauses_31 : decode cX9_doClauses 31 = .ok (.iload_n 2, 1) := by decide +kernel
theorem dX9_doClauses_32 : decode cX9_doClauses 32 = .ok (.invokevirtual 161, 3) := by decide +kernel
theorem dX9_doClauses_35 : decode cX9_doClauses 35 = .ok (.invokestatic 164, 3) := by decide +kernel
theorem dX9_doClauses_38 : decode cX9_doClauses 38 = .ok (.iconst 1, 1) := by decide +kernel
theorem dX9_doClauses_39 : decode cX9_doClauses 39 = .ok (.iadd, 1) := by decide +kernel
theorem dX9_doClauses_40 : decode cX9_doClauses 40 = .ok (.iadd, 1) := by decide +kernel
theorem dX9_doClauses_41 : decode cX9_doClauses 41 = .ok (.istore_n 2, 1) := by decide +kernel
theorem dX9_doClauses_42 : decode cX9_doClauses 42 = .ok (.goto (-38), 3) := by decide +kernel
theorem dX9_doClauses_45 : decode cX9_doClauses 45 = .ok (.iload_n 1, 1) := by decide +kernel
theorem dX9_doClauses_46 : decode cX9_doClauses 46 = .ok (.ireturn, 1) := by decide +kernel
theorem dX9_doClause_0 : decode cX9_doClause 0 = .ok (.aload_n 0, 1) := by decide +kernel
theorem dX9_doClause_1 : decode cX9_doClause 1 = .ok (.getfield 35, 3) := by decide +kernel
theorem dX9_doClause_4 : decode cX9_doClause 4 = .ok (.iload_n 1, 1) := by decide +kernel
theorem dX9_doClause_5 : decode cX9_doClause 5 = .ok (.iconst 1, 1) := by decide +kernel
theorem dX9_doClause_6 : decode cX9_doClause 6 = .ok (.iadd, 1) := by decide +kernel
theorem dX9_doClause_7 : decode cX9_doClause 7 = .ok (.invokevirtual 167, 3) := by decide +kernel
theorem dX9_doClause_10 : decode cX9_doClause 10 = .ok (.istore_n 2, 1) := by decide +kernel
theorem dX9_doClause_11 : decode cX9_doClause 11 = .ok (.aload_n 0, 1) := by decide +kernel
theorem dX9_doClause_12 : decode cX9_doClause 12 = .ok (.getfield 35, 3) := by decide +kernel
theorem dX9_doClause_15 : decode cX9_doClause 15 = .ok (.iload_n 1, 1) := by decide +kernel
theorem dX9_doClause_16 : decode cX9_doClause 16 = .ok (.invokevirtual 161, 3) := by decide +kernel
theorem dX9_doClause_19 : decode cX9_doClause 19 = .ok (.lookupswitch 109 #[(43, 49), (45, 75), (99, 97), (109, 103), (122, 91)], 49) := by decide +kernel
theorem dX9_doClause_68 : decode cX9_doClause 68 = .ok (.aload_n 0, 1) := by decide +kernel
theorem dX9_doClause_69 : decode cX9_doClause 69 = .ok (.iload_n 2, 1) := by decide +kernel
theorem dX9_doClause_70 : decode cX9_doClause 70 = .ok (.aload_n 0, 1) := by decide +kernel
theorem dX9_doClause_71 : decode cX9_doClause 71 = .ok (.getfield 35, 3) := by decide +kernel
theorem dX9_doClause_74 : decode cX9_doClause 74 = .ok (.iload_n 1, 1) := by decide +kernel
theorem dX9_doClause_75 : decode cX9_doClause 75 = .ok (.iconst 2, 1) := by decide +kernel
theorem dX9_doClause_76 : decode cX9_doClause 76 = .ok (.iadd, 1) := by decide +kernel
theorem dX9_doClause_77 : decode cX9_doClause 77 = .ok (.invokevirtual 167, 3) := by decide +kernel
theorem dX9_doClause_80 : decode cX9_doClause 80 = .ok (.aload_n 0, 1) := by decide +kernel
theorem dX9_doClause_81 : decode cX9_doClause 81 = .ok (.getfield 35, 3) := by decide +kernel
theorem dX9_doClause_84 : decode cX9_doClause 84 = .ok (.iload_n 1, 1) := by decide +kernel
theorem dX9_doClause_85 : decode cX9_doClause 85 = .ok (.iconst 3, 1) := by decide +kernel
theorem dX9_doClause_86 : decode cX9_doClause 86 = .ok (.iadd, 1) := by decide +kernel
theorem dX9_doClause_87 : decode cX9_doClause 87 = .ok (.invokevirtual 167, 3) := by decide +kernel
theorem dX9_doClause_90 : decode cX9_doClause 90 = .ok (.invokevirtual 170, 3) := by decide +kernel
theorem dX9_doClause_93 : decode cX9_doClause 93 = .ok (.ireturn, 1) := by decide +kernel
theorem dX9_doClause_94 : decode cX9_doClause 94 = .ok (.aload_n 0, 1) := by decide +kernel
theorem dX9_doClause_95 : decode cX9_doClause 95 = .ok (.iload_n 2, 1) := by decide +kernel
theorem dX9_doClause_96 : decode cX9_doClause 96 = .ok (.aload_n 0, 1) := by decide +kernel
theorem dX9_doClause_97 : decode cX9_doClause 97 = .ok (.getfield 35, 3) := by decide +kernel
theorem dX9_doClause_100 : decode cX9_doClause 100 = .ok (.iload_n 1, 1) := by decide +kernel
theorem dX9_doClause_101 : decode cX9_doClause 101 = .ok (.iconst 2, 1) := by decide +kernel
theorem dX9_doClause_102 : decode cX9_doClause 102 = .ok (.iadd, 1) := by decide +kernel
theorem dX9_doClause_103 : decode cX9_doClause 103 = .ok (.invokevirtual 167, 3) := by decide +kernel
theorem dX9_doClause_106 : decode cX9_doClause 106 = .ok (.invokevirtual 174, 3) := by decide +kernel
theorem dX9_doClause_109 : decode cX9_doClause 109 = .ok (.ireturn, 1) := by decide +kernel
theorem dX9_doClause_110 : decode cX9_doClause 110 = .ok (.aload_n 0, 1) := by decide +kernel
theorem dX9_doClause_111 : decode cX9_doClause 111 = .ok (.iload_n 2, 1) := by decide +kernel
theorem dX9_doClause_112 : decode cX9_doClause 112 = .ok (.invokevirtual 177, 3) := by decide +kernel
theorem dX9_doClause_115 : decode cX9_doClause 115 = .ok (.ireturn, 1) := by decide +kernel
theorem dX9_doClause_116 : decode cX9_doClause 116 = .ok (.aload_n 0, 1) := by decide +kernel
theorem dX9_doClause_117 : decode cX9_doClause 117 = .ok (.iload_n 2, 1) := by decide +kernel
theorem dX9_doClause_118 : decode cX9_doClause 118 = .ok (.invokevirtual 180, 3) := by decide +kernel
theorem dX9_doClause_121 : decode cX9_doClause 121 = .ok (.ireturn, 1) := by decide +kernel
theorem dX9_doClause_122 : decode cX9_doClause 122 = .ok (.aload_n 0, 1) := by decide +kernel
theorem dX9_doClause_123 : decode cX9_doClause 123 = .ok (.iload_n 2, 1) := by decide +kernel
theorem dX9_doClause_124 : decode cX9_doClause 124 = .ok (.invokevirtual 183, 3) := by decide +kernel
theorem dX9_doClause_127 : decode cX9_doClause 127 = .ok (.ireturn, 1) := by decide +kernel
theorem dX9_doClause_128 : decode cX9_doClause 128 = .ok (.aload_n 0, 1) := by decide +kernel
theorem dX9_doClause_129 : decode cX9_doClause 129 = .ok (.invokevirtual 186, 3) := by decide +kernel
theorem dX9_doClause_132 : decode cX9_doClause 132 = .ok (.ireturn, 1) := by decide +kernel
theorem dX9_of_0 : decode cX9_of 0 = .ok (.aload_n 0, 1) := by decide +kernel
theorem dX9_of_1 : decode cX9_of 1 = .ok (.iload_n 1, 1) := by decide +kernel
theorem dX9_of_2 : decode cX9_of 2 = .ok (.iload_n 2, 1) := by decide +kernel
theorem dX9_of_3 : decode cX9_of 3 = .ok (.invokevirtual 105, 3) := by decide +kernel
theorem dX9_of_6 : decode cX9_of 6 = .ok (.ifCond .ne 12, 3) := by decide +kernel
theorem dX9_of_9 : decode cX9_of 9 = .ok (.iload_n 3, 1) := by decide +kernel
theorem dX9_of_10 : decode cX9_of 10 = .ok (.ifCond .lt 8, 3) := by decide +kernel
theorem dX9_of_13 : decode cX9_of 13 = .ok (.iload_n 3, 1) := by decide +kernel
theorem dX9_of_14 : decode cX9_of 14 = .ok (.iconst 2, 1) := by decide +kernel
theorem dX9_of_15 : decode cX9_of 15 = .ok (.if_icmp .le 5, 3) := by decide +kernel
theorem dX9_of_18 : decode cX9_of 18 = .ok (.iconst (-1), 1) := by decide +kernel
theorem dX9_of_19 : decode cX9_of 19 = .ok (.ireturn, 1) := by decide +kernel
theorem dX9_of_20 : decode cX9_of 20 = .ok (.aload_n 0, 1) := by decide +kernel
theorem dX9_of_21 : decode cX9_of 21 = .ok (.getfield 12, 3) := by decide +kernel
theorem dX9_of_24 : decode cX9_of 24 = .ok (.iload_n 1, 1) := by decide +kernel
theorem dX9_of_25 : decode cX9_of 25 = .ok (.invokevirtual 85, 3) := by decide +kernel
theorem dX9_of_28 : decode cX9_of 28 = .ok (.astore 4, 2) := by decide +kernel
theorem dX9_of_30 : decode cX9_of 30 = .ok (.iload_n 3, 1) := by decide +kernel
theorem dX9_of_31 : decode cX9_of 31 = .ok (.lookupswitch 39 #[(0, 25), (1, 32)], 25) := by decide +kernel
theorem dX9_of_56 : decode cX9_of 56 = .ok (.aload 4, 2) := by decide +kernel
theorem dX9_of_58 : decode cX9_of 58 = .ok (.iload_n 2, 1) := by decide +kernel
theorem dX9_of_59 : decode cX9_of 59 = .ok (.invokevirtual 119, 3) := by decide +kernel
theorem dX9_of_62 : decode cX9_of 62 = .ok (.ireturn, 1) := by decide +kernel
theorem dX9_of_63 : decode cX9_of 63 = .ok (.aload 4, 2) := by decide +kernel
theorem dX9_of_65 : decode cX9_of 65 = .ok (.iload_n 2, 1) := by decide +kernel
theorem dX9_of_66 : decode cX9_of 66 = .ok (.invokevirtual 123, 3) := by decide +kernel
theorem dX9_of_69 : decode cX9_of 69 = .ok (.ireturn, 1) := by decide +kernel
theorem dX9_of_70 : decode cX9_of 70 = .ok (.aload 4, 2) := by decide +kernel
theorem dX9_of_72 : decode cX9_of 72 = .ok (.iload_n 2, 1) := by decide +kernel
theorem dX9_of_73 : decode cX9_of 73 = .ok (.invokevirtual 189, 3) := by decide +kernel
theorem dX9_of_76 : decode cX9_of 76 = .ok (.ifCond .eq 7, 3) := by decide +kernel
theorem dX9_of_79 : decode cX9_of 79 = .ok (.iconst 1, 1) := by decide +kernel
theorem dX9_of_80 : decode cX9_of 80 = .ok (.goto 4, 3) := by decide +kernel
theorem dX9_of_83 : decode cX9_of 83 = .ok (.iconst 0, 1) := by decide +kernel
theorem dX9_of_84 : decode cX9_of 84 = .ok (.ireturn, 1) := by decide +kernel
theorem dX9_told_0 : decode cX9_told 0 = .ok (.iload_n 1, 1) := by decide +kernel
theorem dX9_told_1 : decode cX9_told 1 = .ok (.invokestatic 77, 3) := by decide +kernel
theorem dX9_told_4 : decode cX9_told 4 = .ok (.ifCond .ne 12, 3) := by decide +kernel
theorem dX9_told_7 : decode cX9_told 7 = .ok (.iload_n 2, 1) := by decide +kernel
theorem dX9_told_8 : decode cX9_told 8 = .ok (.ifCond .lt 8, 3) := by decide +kernel
theorem dX9_told_11 : decode cX9_told 11 = .ok (.iload_n 2, 1) := by decide +kernel
theorem dX9_told_12 : decode cX9_told 12 = .ok (.iconst 4, 1) := by decide +kernel
theorem dX9_told_13 : decode cX9_told 13 = .ok (.if_icmp .le 5, 3) := by decide +kernel
theorem dX9_told_16 : decode cX9_told 16 = .ok (.iconst (-1), 1) := by decide +kernel
theorem dX9_told_17 : decode cX9_told 17 = .ok (.ireturn, 1) := by decide +kernel
theorem dX9_told_18 : decode cX9_told 18 = .ok (.aload_n 0, 1) := by decide +kernel
theorem dX9_told_19 : decode cX9_told 19 = .ok (.getfield 12, 3) := by decide +kernel
theorem dX9_told_22 : decode cX9_told 22 = .ok (.iload_n 1, 1) := by decide +kernel
theorem dX9_told_23 : decode cX9_told 23 = .ok (.invokevirtual 85, 3) := by decide +kernel
theorem dX9_told_26 : decode cX9_told 26 = .ok (.astore_n 3, 1) := by decide +kernel
theorem dX9_told_27 : decode cX9_told 27 = .ok (.iload_n 2, 1) := by decide +kernel
theorem dX9_told_28 : decode cX9_told 28 = .ok (.ifCond .ne 8, 3) := by decide +kernel
theorem dX9_told_31 : decode cX9_told 31 = .ok (.aload_n 3, 1) := by decide +kernel
theorem dX9_told_32 : decode cX9_told 32 = .ok (.invokevirtual 93, 3) := by decide +kernel
theorem dX9_told_35 : decode cX9_told 35 = .ok (.ireturn, 1) := by decide +kernel
theorem dX9_told_36 : decode cX9_told 36 = .ok (.iload_n 2, 1) := by decide +kernel
theorem dX9_told_37 : decode cX9_told 37 = .ok (.iconst 1, 1) := by decide +kernel
theorem dX9_told_38 : decode cX9_told 38 = .ok (.if_icmp .ne 8, 3) := by decide +kernel
theorem dX9_told_41 : decode cX9_told 41 = .ok (.aload_n 3, 1) := by decide +kernel
theorem dX9_told_42 : decode cX9_told 42 = .ok (.invokevirtual 192, 3) := by decide +kernel
theorem dX9_told_45 : decode cX9_told 45 = .ok (.ireturn, 1) := by decide +kernel
theorem dX9_told_46 : decode cX9_told 46 = .ok (.aload_n 3, 1) := by decide +kernel
theorem dX9_told_47 : decode cX9_told 47 = .ok (.invokevirtual 93, 3) := by decide +kernel
theorem dX9_told_50 : decode cX9_told 50 = .ok (.ifCond .ne 6, 3) := by decide +kernel
theorem dX9_told_53 : decode cX9_told 53 = .ok (.bipush (-3), 2) := by decide +kernel
theorem dX9_told_55 : decode cX9_told 55 = .ok (.ireturn, 1) := by decide +kernel
theorem dX9_told_56 : decode cX9_told 56 = .ok (.iload_n 2, 1) := by decide +kernel
theorem dX9_told_57 : decode cX9_told 57 = .ok (.iconst 2, 1) := by decide +kernel
theorem dX9_told_58 : decode cX9_told 58 = .ok (.if_icmp .ne 19, 3) := by decide +kernel
theorem dX9_told_61 : decode cX9_told 61 = .ok (.aload_n 0, 1) := by decide +kernel
theorem dX9_told_62 : decode cX9_told 62 = .ok (.getfield 56, 3) := by decide +kernel
theorem dX9_told_65 : decode cX9_told 65 = .ok (.aload_n 3, 1) := by decide +kernel
theorem dX9_told_66 : decode cX9_told 66 = .ok (.invokevirtual 129, 3) := by decide +kernel
theorem dX9_told_69 : decode cX9_told 69 = .ok (.aload_n 0, 1) := by decide +kernel
theorem dX9_told_70 : decode cX9_told 70 = .ok (.getfield 56, 3) := by decide +kernel
theorem dX9_told_73 : decode cX9_told 73 = .ok (.invokevirtual 195, 3) := by decide +kernel
theorem dX9_told_76 : decode cX9_told 76 = .ok (.ireturn, 1) := by decide +kernel
theorem dX9_told_77 : decode cX9_told 77 = .ok (.iload_n 2, 1) := by decide +kernel
theorem dX9_told_78 : decode cX9_told 78 = .ok (.iconst 3, 1) := by decide +kernel
theorem dX9_told_79 : decode cX9_told 79 = .ok (.if_icmp .ne 11, 3) := by decide +kernel
theorem dX9_told_82 : decode cX9_told 82 = .ok (.aload_n 0, 1) := by decide +kernel
theorem dX9_told_83 : decode cX9_told 83 = .ok (.aload_n 3, 1) := by decide +kernel
theorem dX9_told_84 : decode cX9_told 84 = .ok (.invokevirtual 196, 3) := by decide +kernel
theorem dX9_told_87 : decode cX9_told 87 = .ok (.goto 8, 3) := by decide +kernel
theorem dX9_told_90 : decode cX9_told 90 = .ok (.aload_n 0, 1) := by decide +kernel
theorem dX9_told_91 : decode cX9_told 91 = .ok (.aload_n 3, 1) := by decide +kernel
theorem dX9_told_92 : decode cX9_told 92 = .ok (.invokevirtual 199, 3) := by decide +kernel
theorem dX9_told_95 : decode cX9_told 95 = .ok (.ireturn, 1) := by decide +kernel
theorem dX9_in_0 : decode cX9_in 0 = .ok (.iload_n 1, 1) := by decide +kernel
theorem dX9_in_1 : decode cX9_in 1 = .ok (.invokestatic 77, 3) := by decide +kernel
theorem dX9_in_4 : decode cX9_in 4 = .ok (.ifCond .ne 14, 3) := by decide +kernel
theorem dX9_in_7 : decode cX9_in 7 = .ok (.iload 4, 2) := by decide +kernel
theorem dX9_in_9 : decode cX9_in 9 = .ok (.ifCond .lt 9, 3) := by decide +kernel
theorem dX9_in_12 : decode cX9_in 12 = .ok (.iload 4, 2) := by decide +kernel
theorem dX9_in_14 : decode cX9_in 14 = .ok (.iconst 1, 1) := by decide +kernel
theorem dX9_in_15 : decode cX9_in 15 = .ok (.if_icmp .le 5, 3) := by decide +kernel
theorem dX9_in_18 : decode cX9_in 18 = .ok (.iconst (-1), 1) := by decide +kernel
theorem dX9_in_19 : decode cX9_in 19 = .ok (.ireturn, 1) := by decide +kernel
theorem dX9_in_20 : decode cX9_in 20 = .ok (.iload_n 2, 1) := by decide +kernel
theorem dX9_in_21 : decode cX9_in 21 = .ok (.iload_n 3, 1) := by decide +kernel
theorem dX9_in_22 : decode cX9_in 22 = .ok (.invokestatic 81, 3) := by decide +kernel
theorem dX9_in_25 : decode cX9_in 25 = .ok (.ifCond .eq 6, 3) := by decide +kernel
theorem dX9_in_28 : decode cX9_in 28 = .ok (.bipush (-2), 2) := by decide +kernel
theorem dX9_in_30 : decode cX9_in 30 = .ok (.ireturn, 1) := by decide +kernel
theorem dX9_in_31 : decode cX9_in 31 = .ok (.aload_n 0, 1) := by decide +kernel
theorem dX9_in_32 : decode cX9_in 32 = .ok (.getfield 12, 3) := by decide +kernel
theorem dX9_in_35 : decode cX9_in 35 = .ok (.iload_n 1, 1) := by decide +kernel
theorem dX9_in_36 : decode cX9_in 36 = .ok (.invokevirtual 85, 3) := by decide +kernel
theorem dX9_in_39 : decode cX9_in 39 = .ok (.astore 5, 2) := by decide +kernel
theorem dX9_in_41 : decode cX9_in 41 = .ok (.iload 4, 2) := by decide +kernel
theorem dX9_in_43 : decode cX9_in 43 = .ok (.ifCond .ne 19, 3) := by decide +kernel
theorem dX9_in_46 : decode cX9_in 46 = .ok (.aload 5, 2) := by decide +kernel
theorem dX9_in_48 : decode cX9_in 48 = .ok (.iload_n 2, 1) := by decide +kernel
theorem dX9_in_49 : decode cX9_in 49 = .ok (.iload_n 3, 1) := by decide +kernel
theorem dX9_in_50 : decode cX9_in 50 = .ok (.invokevirtual 202, 3) := by decide +kernel
theorem dX9_in_53 : decode cX9_in 53 = .ok (.ifCond .eq 7, 3) := by decide +kernel
theorem dX9_in_56 : decode cX9_in 56 = .ok (.iconst 1, 1) := by decide +kernel
theorem dX9_in_57 : decode cX9_in 57 = .ok (.goto 4, 3) := by decide +kernel
theorem dX9_in_60 : decode cX9_in 60 = .ok (.iconst 0, 1) := by decide +kernel
theorem dX9_in_61 : decode cX9_in 61 = .ok (.ireturn, 1) := by decide +kernel
theorem dX9_in_62 : decode cX9_in 62 = .ok (.aload 5, 2) := by decide +kernel
theorem dX9_in_64 : decode cX9_in 64 = .ok (.invokevirtual 93, 3) := by decide +kernel
theorem dX9_in_67 : decode cX9_in 67 = .ok (.ifCond .ne 6, 3) := by decide +kernel
theorem dX9_in_70 : decode cX9_in 70 = .ok (.bipush (-3), 2) := by decide +kernel
theorem dX9_in_72 : decode cX9_in 72 = .ok (.ireturn, 1) := by decide +kernel
theorem dX9_in_73 : decode cX9_in 73 = .ok (.aload_n 0, 1) := by decide +kernel
theorem dX9_in_74 : decode cX9_in 74 = .ok (.getfield 56, 3) := by decide +kernel
theorem dX9_in_77 : decode cX9_in 77 = .ok (.aload 5, 2) := by decide +kernel
theorem dX9_in_79 : decode cX9_in 79 = .ok (.invokevirtual 129, 3) := by decide +kernel
theorem dX9_in_82 : decode cX9_in 82 = .ok (.aload_n 0, 1) := by decide +kernel
theorem dX9_in_83 : decode cX9_in 83 = .ok (.getfield 56, 3) := by decide +kernel
theorem dX9_in_86 : decode cX9_in 86 = .ok (.iload_n 2, 1) := by decide +kernel
theorem dX9_in_87 : decode cX9_in 87 = .ok (.iload_n 3, 1) := by decide +kernel
theorem dX9_in_88 : decode cX9_in 88 = .ok (.invokevirtual 205, 3) := by decide +kernel
theorem dX9_in_91 : decode cX9_in 91 = .ok (.ifCond .eq 7, 3) := by decide +kernel
theorem dX9_in_94 : decode cX9_in 94 = .ok (.iconst 1, 1) := by decide +kernel
theorem dX9_in_95 : decode cX9_in 95 = .ok (.goto 4, 3) := by decide +kernel
theorem dX9_in_98 : decode cX9_in 98 = .ok (.iconst 0, 1) := by decide +kernel
theorem dX9_in_99 : decode cX9_in 99 = .ok (.ireturn, 1) := by decide +kernel
theorem dX9_face_0 : decode cX9_face 0 = .ok (.iload_n 1, 1) := by decide +kernel
theorem dX9_face_1 : decode cX9_face 1 = .ok (.invokestatic 77, 3) := by decide +kernel
theorem dX9_face_4 : decode cX9_face 4 = .ok (.ifCond .eq 5, 3) := by decide +kernel
theorem dX9_face_7 : decode cX9_face 7 = .ok (.iconst (-1), 1) := by decide +kernel
theorem dX9_face_8 : decode cX9_face 8 = .ok (.ireturn, 1) := by decide +kernel
theorem dX9_face_9 : decode cX9_face 9 = .ok (.aload_n 0, 1) := by decide +kernel
theorem dX9_face_10 : decode cX9_face 10 = .ok (.getfield 12, 3) := by decide +kernel
theorem dX9_face_13 : decode cX9_face 13 = .ok (.iload_n 1, 1) := by decide +kernel
theorem dX9_face_14 : decode cX9_face 14 = .ok (.invokevirtual 85, 3) := by decide +kernel
theorem dX9_face_17 : decode cX9_face 17 = .ok (.astore 4, 2) := by decide +kernel
theorem dX9_face_19 : decode cX9_face 19 = .ok (.aload 4, 2) := by decide +kernel
theorem dX9_face_21 : decode cX9_face 21 = .ok (.invokevirtual 93, 3) := by decide +kernel
theorem dX9_face_24 : decode cX9_face 24 = .ok (.ifCond .ne 6, 3) := by decide +kernel
theorem dX9_face_27 : decode cX9_face 27 = .ok (.bipush (-3), 2) := by decide +kernel
theorem dX9_face_29 : decode cX9_face 29 = .ok (.ireturn, 1) := by decide +kernel
theorem dX9_face_30 : decode cX9_face 30 = .ok (.aload_n 0, 1) := by decide +kernel
theorem dX9_face_31 : decode cX9_face 31 = .ok (.getfield 56, 3) := by decide +kernel
theorem dX9_face_34 : decode cX9_face 34 = .ok (.aload 4, 2) := by decide +kernel
theorem dX9_face_36 : decode cX9_face 36 = .ok (.invokevirtual 129, 3) := by decide +kernel
theorem dX9_face_39 : decode cX9_face 39 = .ok (.iload_n 2, 1) := by decide +kernel
theorem dX9_face_40 : decode cX9_face 40 = .ok (.ifCond .lt 23, 3) := by decide +kernel
theorem dX9_face_43 : decode cX9_face 43 = .ok (.iload_n 2, 1) := by decide +kernel
theorem dX9_face_44 : decode cX9_face 44 = .ok (.aload_n 0, 1) := by decide +kernel
theorem dX9_face_45 : decode cX9_face 45 = .ok (.getfield 56, 3) := by decide +kernel
theorem dX9_face_48 : decode cX9_face 48 = .ok (.invokevirtual 195, 3) := by decide +kernel
theorem dX9_face_51 : decode cX9_face 51 = .ok (.if_icmp .ge 12, 3) := by decide +kernel
theorem dX9_face_54 : decode cX9_face 54 = .ok (.iload_n 3, 1) := by decide +kernel
theorem dX9_face_55 : decode cX9_face 55 = .ok (.ifCond .lt 8, 3) := by decide +kernel
theorem dX9_face_58 : decode cX9_face 58 = .ok (.iload_n 3, 1) := by decide +kernel
theorem dX9_face_59 : decode cX9_face 59 = .ok (.iconst 2, 1) := by decide +kernel
theorem dX9_face_60 : decode cX9_face 60 = .ok (.if_icmp .le 5, 3) := by decide +kernel
theorem dX9_face_63 : decode cX9_face 63 = .ok (.iconst (-1), 1) := by decide +kernel
theorem dX9_face_64 : decode cX9_face 64 = .ok (.ireturn, 1) := by decide +kernel
theorem dX9_face_65 : decode cX9_face 65 = .ok (.iload_n 3, 1) := by decide +kernel
theorem dX9_face_66 : decode cX9_face 66 = .ok (.lookupswitch 44 #[(0, 26), (1, 35)], 26) := by decide +kernel
theorem dX9_face_92 : decode cX9_face 92 = .ok (.aload_n 0, 1) := by decide +kernel
theorem dX9_face_93 : decode cX9_face 93 = .ok (.getfield 56, 3) := by decide +kernel
theorem dX9_face_96 : decode cX9_face 96 = .ok (.iload_n 2, 1) := by decide +kernel
theorem dX9_face_97 : decode cX9_face 97 = .ok (.invokevirtual 208, 3) := by decide +kernel
theorem dX9_face_100 : decode cX9_face 100 = .ok (.ireturn, 1) := by decide +kernel
theorem dX9_face_101 : decode cX9_face 101 = .ok (.aload_n 0, 1) := by decide +kernel
theorem dX9_face_102 : decode cX9_face 102 = .ok (.getfield 56, 3) := by decide +kernel
theorem dX9_face_105 : decode cX9_face 105 = .ok (.iload_n 2, 1) := by decide +kernel
theorem dX9_face_106 : decode cX9_face 106 = .ok (.invokevirtual 211, 3) := by decide +kernel
theorem dX9_face_109 : decode cX9_face 109 = .ok (.ireturn, 1) := by decide +kernel
theorem dX9_face_110 : decode cX9_face 110 = .ok (.aload_n 0, 1) := by decide +kernel
theorem dX9_face_111 : decode cX9_face 111 = .ok (.getfield 56, 3) := by decide +kernel
theorem dX9_face_114 : decode cX9_face 114 = .ok (.iload_n 2, 1) := by decide +kernel
theorem dX9_face_115 : decode cX9_face 115 = .ok (.invokevirtual 214, 3) := by decide +kernel
theorem dX9_face_118 : decode cX9_face 118 = .ok (.ireturn, 1) := by decide +kernel
theorem dX9_held_0 : decode cX9_held 0 = .ok (.iload_n 1, 1) := by decide +kernel
theorem dX9_held_1 : decode cX9_held 1 = .ok (.invokestatic 77, 3) := by decide +kernel
theorem dX9_held_4 : decode cX9_held 4 = .ok (.ifCond .eq 5, 3) := by decide +kernel
theorem dX9_held_7 : decode cX9_held 7 = .ok (.iconst (-1), 1) := by decide +kernel
theorem dX9_held_8 : decode cX9_held 8 = .ok (.ireturn, 1) := by decide +kernel
theorem dX9_held_9 : decode cX9_held 9 = .ok (.iload_n 2, 1) := by decide +kernel
theorem dX9_held_10 : decode cX9_held 10 = .ok (.iload_n 3, 1) := by decide +kernel
theorem dX9_held_11 : decode cX9_held 11 = .ok (.invokestatic 81, 3) := by decide +kernel
theorem dX9_held_14 : decode cX9_held 14 = .ok (.ifCond .ne 13, 3) := by decide +kernel
theorem dX9_held_17 : decode cX9_held 17 = .ok (.iload 4, 2) := by decide +kernel
theorem dX9_held_19 : decode cX9_held 19 = .ok (.iload 5, 2) := by decide +kernel
theorem dX9_held_21 : decode cX9_held 21 = .ok (.invokestatic 217, 3) := by decide +kernel
theorem dX9_held_24 : decode cX9_held 24 = .ok (.ifCond .eq 6, 3) := by decide +kernel
theorem dX9_held_27 : decode cX9_held 27 = .ok (.bipush (-2), 2) := by decide +kernel
theorem dX9_held_29 : decode cX9_held 29 = .ok (.ireturn, 1) := by decide +kernel
theorem dX9_held_30 : decode cX9_held 30 = .ok (.aload_n 0, 1) := by decide +kernel
theorem dX9_held_31 : decode cX9_held 31 = .ok (.getfield 12, 3) := by decide +kernel
theorem dX9_held_34 : decode cX9_held 34 = .ok (.iload_n 1, 1) := by decide +kernel
theorem dX9_held_35 : decode cX9_held 35 = .ok (.invokevirtual 85, 3) := by decide +kernel
theorem dX9_held_38 : decode cX9_held 38 = .ok (.astore 6, 2) := by decide +kernel
theorem dX9_held_40 : decode cX9_held 40 = .ok (.aload 6, 2) := by decide +kernel
theorem dX9_held_42 : decode cX9_held 42 = .ok (.invokevirtual 93, 3) := by decide +kernel
theorem dX9_held_45 : decode cX9_held 45 = .ok (.ifCond .ne 6, 3) := by decide +kernel
theorem dX9_held_48 : decode cX9_held 48 = .ok (.bipush (-3), 2) := by decide +kernel
theorem dX9_held_50 : decode cX9_held 50 = .ok (.ireturn, 1) := by decide +kernel
theorem dX9_held_51 : decode cX9_held 51 = .ok (.aload_n 0, 1) := by decide +kernel
theorem dX9_held_52 : decode cX9_held 52 = .ok (.getfield 56, 3) := by decide +kernel
theorem dX9_held_55 : decode cX9_held 55 = .ok (.aload 6, 2) := by decide +kernel
theorem dX9_held_57 : decode cX9_held 57 = .ok (.invokevirtual 129, 3) := by decide +kernel
theorem dX9_held_60 : decode cX9_held 60 = .ok (.aload_n 0, 1) := by decide +kernel
theorem dX9_held_61 : decode cX9_held 61 = .ok (.getfield 56, 3) := by decide +kernel
theorem dX9_held_64 : decode cX9_held 64 = .ok (.iload_n 2, 1) := by decide +kernel
theorem dX9_held_65 : decode cX9_held 65 = .ok (.iload_n 3, 1) := by decide +kernel
theorem dX9_held_66 : decode cX9_held 66 = .ok (.iload 4, 2) := by decide +kernel
theorem dX9_held_68 : decode cX9_held 68 = .ok (.iload 5, 2) := by decide +kernel
theorem dX9_held_70 : decode cX9_held 70 = .ok (.invokevirtual 220, 3) := by decide +kernel
theorem dX9_held_73 : decode cX9_held 73 = .ok (.ifCond .ge 7, 3) := by decide +kernel
theorem dX9_held_76 : decode cX9_held 76 = .ok (.iconst 1, 1) := by decide +kernel
theorem dX9_held_77 : decode cX9_held 77 = .ok (.goto 4, 3) := by decide +kernel
theorem dX9_held_80 : decode cX9_held 80 = .ok (.iconst 0, 1) := by decide +kernel
theorem dX9_held_81 : decode cX9_held 81 = .ok (.ireturn, 1) := by decide +kernel
theorem dX9_reason_0 : decode cX9_reason 0 = .ok (.iload_n 1, 1) := by decide +kernel
theorem dX9_reason_1 : decode cX9_reason 1 = .ok (.invokestatic 77, 3) := by decide +kernel
theorem dX9_reason_4 : decode cX9_reason 4 = .ok (.ifCond .ne 14, 3) := by decide +kernel
theorem dX9_reason_7 : decode cX9_reason 7 = .ok (.iload 6, 2) := by decide +kernel
theorem dX9_reason_9 : decode cX9_reason 9 = .ok (.ifCond .lt 9, 3) := by decide +kernel
theorem dX9_reason_12 : decode cX9_reason 12 = .ok (.iload 6, 2) := by decide +kernel
theorem dX9_reason_14 : decode cX9_reason 14 = .ok (.iconst 4, 1) := by decide +kernel
theorem dX9_reason_15 : decode cX9_reason 15 = .ok (.if_icmp .le 5, 3) := by decide +kernel
theorem dX9_reason_18 : decode cX9_reason 18 = .ok (.iconst (-1), 1) := by decide +kernel
theorem dX9_reason_19 : decode cX9_reason 19 = .ok (.ireturn, 1) := by decide +kernel
theorem dX9_reason_20 : decode cX9_reason 20 = .ok (.iload_n 2, 1) := by decide +kernel
theorem dX9_reason_21 : decode cX9_reason 21 = .ok (.iload_n 3, 1) := by decide +kernel
theorem dX9_reason_22 : decode cX9_reason 22 = .ok (.invokestatic 81, 3) := by decide +kernel
theorem dX9_reason_25 : decode cX9_reason 25 = .ok (.ifCond .ne 13, 3) := by decide +kernel
theorem dX9_reason_28 : decode cX9_reason 28 = .ok (.iload 4, 2) := by decide +kernel
theorem dX9_reason_30 : decode cX9_reason 30 = .ok (.iload 5, 2) := by decide +kernel
theorem dX9_reason_32 : decode cX9_reason 32 = .ok (.invokestatic 217, 3) := by decide +kernel
theorem dX9_reason_35 : decode cX9_reason 35 = .ok (.ifCond .eq 6, 3) := by decide +kernel
theorem dX9_reason_38 : decode cX9_reason 38 = .ok (.bipush (-2), 2) := by decide +kernel
theorem dX9_reason_40 : decode cX9_reason 40 = .ok (.ireturn, 1) := by decide +kernel
theorem dX9_reason_41 : decode cX9_reason 41 = .ok (.aload_n 0, 1) := by decide +kernel
theorem dX9_reason_42 : decode cX9_reason 42 = .ok (.getfield 12, 3) := by decide +kernel
theorem dX9_reason_45 : decode cX9_reason 45 = .ok (.iload_n 1, 1) := by decide +kernel
theorem dX9_reason_46 : decode cX9_reason 46 = .ok (.invokevirtual 85, 3) := by decide +kernel
theorem dX9_reason_49 : decode cX9_reason 49 = .ok (.astore 7, 2) := by decide +kernel
theorem dX9_reason_51 : decode cX9_reason 51 = .ok (.aload 7, 2) := by decide +kernel
theorem dX9_reason_53 : decode cX9_reason 53 = .ok (.invokevirtual 93, 3) := by decide +kernel
theorem dX9_reason_56 : decode cX9_reason 56 = .ok (.ifCond .ne 6, 3) := by decide +kernel
theorem dX9_reason_59 : decode cX9_reason 59 = .ok (.bipush (-3), 2) := by decide +kernel
theorem dX9_reason_61 : decode cX9_reason 61 = .ok (.ireturn, 1) := by decide +kernel
theorem dX9_reason_62 : decode cX9_reason 62 = .ok (.aload_n 0, 1) := by decide +kernel
theorem dX9_reason_63 : decode cX9_reason 63 = .ok (.getfield 56, 3) := by decide +kernel
theorem dX9_reason_66 : decode cX9_reason 66 = .ok (.aload 7, 2) := by decide +kernel
theorem dX9_reason_68 : decode cX9_reason 68 = .ok (.invokevirtual 129, 3) := by decide +kernel
theorem dX9_reason_71 : decode cX9_reason 71 = .ok (.aload_n 0, 1) := by decide +kernel
theorem dX9_reason_72 : decode cX9_reason 72 = .ok (.getfield 56, 3) := by decide +kernel
theorem dX9_reason_75 : decode cX9_reason 75 = .ok (.iload_n 2, 1) := by decide +kernel
theorem dX9_reason_76 : decode cX9_reason 76 = .ok (.iload_n 3, 1) := by decide +kernel
theorem dX9_reason_77 : decode cX9_reason 77 = .ok (.iload 4, 2) := by decide +kernel
theorem dX9_reason_79 : decode cX9_reason 79 = .ok (.iload 5, 2) := by decide +kernel
theorem dX9_reason_81 : decode cX9_reason 81 = .ok (.invokevirtual 220, 3) := by decide +kernel
theorem dX9_reason_84 : decode cX9_reason 84 = .ok (.istore 8, 2) := by decide +kernel
theorem dX9_reason_86 : decode cX9_reason 86 = .ok (.iload 8, 2) := by decide +kernel
theorem dX9_reason_88 : decode cX9_reason 88 = .ok (.ifCond .ge 6, 3) := by decide +kernel
theorem dX9_reason_91 : decode cX9_reason 91 = .ok (.bipush (-5), 2) := by decide +kernel
theorem dX9_reason_93 : decode cX9_reason 93 = .ok (.ireturn, 1) := by decide +kernel
theorem dX9_reason_94 : decode cX9_reason 94 = .ok (.iload 6, 2) := by decide +kernel
theorem dX9_reason_96 : decode cX9_reason 96 = .ok (.tableswitch 64 0 3 #[32, 35, 51, 61], 32) := by decide +kernel
theorem dX9_reason_128 : decode cX9_reason 128 = .ok (.iload 8, 2) := by decide +kernel
theorem dX9_reason_130 : decode cX9_reason 130 = .ok (.ireturn, 1) := by decide +kernel
theorem dX9_reason_131 : decode cX9_reason 131 = .ok (.aload_n 0, 1) := by decide +kernel
theorem dX9_reason_132 : decode cX9_reason 132 = .ok (.getfield 56, 3) := by decide +kernel
theorem dX9_reason_135 : decode cX9_reason 135 = .ok (.iload 8, 2) := by decide +kernel
theorem dX9_reason_137 : decode cX9_reason 137 = .ok (.iload_n 2, 1) := by decide +kernel
theorem dX9_reason_138 : decode cX9_reason 138 = .ok (.iconst 1, 1) := by decide +kernel
theorem dX9_reason_139 : decode cX9_reason 139 = .ok (.iadd, 1) := by decide +kernel
theorem dX9_reason_140 : decode cX9_reason 140 = .ok (.iload_n 3, 1) := by decide +kernel
theorem dX9_reason_141 : decode cX9_reason 141 = .ok (.iconst 1, 1) := by decide +kernel
theorem dX9_reason_142 : decode cX9_reason 142 = .ok (.iadd, 1) := by decide +kernel
theorem dX9_reason_143 : decode cX9_reason 143 = .ok (.invokevirtual 224, 3) := by decide +kernel
theorem dX9_reason_146 : decode cX9_reason 146 = .ok (.ireturn, 1) := by decide +kernel
theorem dX9_reason_147 : decode cX9_reason 147 = .ok (.aload_n 0, 1) := by decide +kernel
theorem dX9_reason_148 : decode cX9_reason 148 = .ok (.getfield 56, 3) := by decide +kernel
theorem dX9_reason_151 : decode cX9_reason 151 = .ok (.iload 8, 2) := by decide +kernel
theorem dX9_reason_153 : decode cX9_reason 153 = .ok (.invokevirtual 214, 3) := by decide +kernel
theorem dX9_reason_156 : decode cX9_reason 156 = .ok (.ireturn, 1) := by decide +kernel
theorem dX9_reason_157 : decode cX9_reason 157 = .ok (.iload 4, 2) := by decide +kernel
theorem dX9_reason_159 : decode cX9_reason 159 = .ok (.ireturn, 1) := by decide +kernel
theorem dX9_reason_160 : decode cX9_reason 160 = .ok (.iload 5, 2) := by decide +kernel
theorem dX9_reason_162 : decode cX9_reason 162 = .ok (.ireturn, 1) := by decide +kernel
theorem dX9_jump_0 : decode cX9_jump 0 = .ok (.iload_n 1, 1) := by decide +kernel
theorem dX9_jump_1 : decode cX9_jump 1 = .ok (.invokestatic 77, 3) := by decide +kernel
theorem dX9_jump_4 : decode cX9_jump 4 = .ok (.ifCond .ne 19, 3) := by decide +kernel
theorem dX9_jump_7 : decode cX9_jump 7 = .ok (.iload_n 2, 1) := by decide +kernel
theorem dX9_jump_8 : decode cX9_jump 8 = .ok (.iload_n 3, 1) := by decide +kernel
theorem dX9_jump_9 : decode cX9_jump 9 = .ok (.invokestatic 81, 3) := by decide +kernel
theorem dX9_jump_12 : decode cX9_jump 12 = .ok (.ifCond .ne 11, 3) := by decide +kernel
theorem dX9_jump_15 : decode cX9_jump 15 = .ok (.iload 4, 2) := by decide +kernel
theorem dX9_jump_17 : decode cX9_jump 17 = .ok (.invokestatic 227, 3) := by decide +kernel
theorem dX9_jump_20 : decode cX9_jump 20 = .ok (.ifCond .eq 7, 3) := by decide +kernel
theorem dX9_jump_23 : decode cX9_jump 23 = .ok (.ldc2_w 230, 3) := by decide +kernel
theorem dX9_jump_26 : decode cX9_jump 26 = .ok (.lreturn, 1) := by decide +kernel
theorem dX9_jump_27 : decode cX9_jump 27 = .ok (.aload_n 0, 1) := by decide +kernel
theorem dX9_jump_28 : decode cX9_jump 28 = .ok (.getfield 12, 3) := by decide +kernel
theorem dX9_jump_31 : decode cX9_jump 31 = .ok (.iload_n 1, 1) := by decide +kernel
theorem dX9_jump_32 : decode cX9_jump 32 = .ok (.invokevirtual 85, 3) := by decide +kernel
theorem dX9_jump_35 : decode cX9_jump 35 = .ok (.astore 5, 2) := by decide +kernel
theorem dX9_jump_37 : decode cX9_jump 37 = .ok (.aload 5, 2) := by decide +kernel
theorem dX9_jump_39 : decode cX9_jump 39 = .ok (.invokevirtual 93, 3) := by decide +kernel
theorem dX9_jump_42 : decode cX9_jump 42 = .ok (.ifCond .ne 7, 3) := by decide +kernel
theorem dX9_jump_45 : decode cX9_jump 45 = .ok (.ldc2_w 230, 3) := by decide +kernel
theorem dX9_jump_48 : decode cX9_jump 48 = .ok (.lreturn, 1) := by decide +kernel
theorem dX9_jump_49 : decode cX9_jump 49 = .ok (.aload_n 0, 1) := by decide +kernel
theorem dX9_jump_50 : decode cX9_jump 50 = .ok (.getfield 56, 3) := by decide +kernel
theorem dX9_jump_53 : decode cX9_jump 53 = .ok (.aload 5, 2) := by decide +kernel
theorem dX9_jump_55 : decode cX9_jump 55 = .ok (.invokevirtual 129, 3) := by decide +kernel
theorem dX9_jump_58 : decode cX9_jump 58 = .ok (.aload_n 0, 1) := by decide +kernel
theorem dX9_jump_59 : decode cX9_jump 59 = .ok (.getfield 56, 3) := by decide +kernel
theorem dX9_jump_62 : decode cX9_jump 62 = .ok (.iload_n 2, 1) := by decide +kernel
theorem dX9_jump_63 : decode cX9_jump 63 = .ok (.iload_n 3, 1) := by decide +kernel
theorem dX9_jump_64 : decode cX9_jump 64 = .ok (.invokevirtual 232, 3) := by decide +kernel
theorem dX9_jump_67 : decode cX9_jump 67 = .ok (.istore 6, 2) := by decide +kernel
theorem dX9_jump_69 : decode cX9_jump 69 = .ok (.iload 6, 2) := by decide +kernel
theorem dX9_jump_71 : decode cX9_jump 71 = .ok (.ifCond .ge 7, 3) := by decide +kernel
theorem dX9_jump_74 : decode cX9_jump 74 = .ok (.ldc2_w 230, 3) := by decide +kernel
theorem dX9_jump_77 : decode cX9_jump 77 = .ok (.lreturn, 1) := by decide +kernel
theorem dX9_jump_78 : decode cX9_jump 78 = .ok (.aload_n 0, 1) := by decide +kernel
theorem dX9_jump_79 : decode cX9_jump 79 = .ok (.getfield 56, 3) := by decide +kernel
theorem dX9_jump_82 : decode cX9_jump 82 = .ok (.iload 6, 2) := by decide +kernel
theorem dX9_jump_84 : decode cX9_jump 84 = .ok (.iload_n 2, 1) := by decide +kernel
theorem dX9_jump_85 : decode cX9_jump 85 = .ok (.iconst 1, 1) := by decide +kernel
theorem dX9_jump_86 : decode cX9_jump 86 = .ok (.iadd, 1) := by decide +kernel
theorem dX9_jump_87 : decode cX9_jump 87 = .ok (.iload_n 3, 1) := by decide +kernel
theorem dX9_jump_88 : decode cX9_jump 88 = .ok (.iconst 1, 1) := by decide +kernel
theorem dX9_jump_89 : decode cX9_jump 89 = .ok (.iadd, 1) := by decide +kernel
theorem dX9_jump_90 : decode cX9_jump 90 = .ok (.invokevirtual 224, 3) := by decide +kernel
theorem dX9_jump_93 : decode cX9_jump 93 = .ok (.aload_n 0, 1) := by decide +kernel
theorem dX9_jump_94 : decode cX9_jump 94 = .ok (.getfield 56, 3) := by decide +kernel
theorem dX9_jump_97 : decode cX9_jump 97 = .ok (.iload 6, 2) := by decide +kernel
theorem dX9_jump_99 : decode cX9_jump 99 = .ok (.invokevirtual 214, 3) := by decide +kernel
theorem dX9_jump_102 : decode cX9_jump 102 = .ok (.iload 4, 2) := by decide +kernel
theorem dX9_jump_104 : decode cX9_jump 104 = .ok (.invokestatic 235, 3) := by decide +kernel
theorem dX9_jump_107 : decode cX9_jump 107 = .ok (.lreturn, 1) := by decide +kernel
theorem dX9_jumps_0 : decode cX9_jumps 0 = .ok (.iload_n 1, 1) := by decide +kernel
theorem dX9_jumps_1 : decode cX9_jumps 1 = .ok (.invokestatic 77, 3) := by decide +kernel
theorem dX9_jumps_4 : decode cX9_jumps 4 = .ok (.ifCond .ne 10, 3) := by decide +kernel
theorem dX9_jumps_7 : decode cX9_jumps 7 = .ok (.iload_n 3, 1) := by decide +kernel
theorem dX9_jumps_8 : decode cX9_jumps 8 = .ok (.invokestatic 227, 3) := by decide +kernel
theorem dX9_jumps_11 : decode cX9_jumps 11 = .ok (.ifCond .eq 7, 3) := by decide +kernel
theorem dX9_jumps_14 : decode cX9_jumps 14 = .ok (.ldc2_w 230, 3) := by decide +kernel
theorem dX9_jumps_17 : decode cX9_jumps 17 = .ok (.lreturn, 1) := by decide +kernel
theorem dX9_jumps_18 : decode cX9_jumps 18 = .ok (.aload_n 0, 1) := by decide +kernel
theorem dX9_jumps_19 : decode cX9_jumps 19 = .ok (.getfield 12, 3) := by decide +kernel
theorem dX9_jumps_22 : decode cX9_jumps 22 = .ok (.iload_n 1, 1) := by decide +kernel
theorem dX9_jumps_23 : decode cX9_jumps 23 = .ok (.invokevirtual 85, 3) := by decide +kernel
theorem dX9_jumps_26 : decode cX9_jumps 26 = .ok (.astore 4, 2) := by decide +kernel
theorem dX9_jumps_28 : decode cX9_jumps 28 = .ok (.aload 4, 2) := by decide +kernel
theorem dX9_jumps_30 : decode cX9_jumps 30 = .ok (.invokevirtual 93, 3) := by decide +kernel
theorem dX9_jumps_33 : decode cX9_jumps 33 = .ok (.ifCond .eq 17, 3) := by decide +kernel
theorem dX9_jumps_36 : decode cX9_jumps 36 = .ok (.iload_n 2, 1) := by decide +kernel
theorem dX9_jumps_37 : decode cX9_jumps 37 = .ok (.ifCond .lt 13, 3) := by decide +kernel
theorem dX9_jumps_40 : decode cX9_jumps 40 = .ok (.iload_n 2, 1) := by decide +kernel
theorem dX9_jumps_41 : decode cX9_jumps 41 = .ok (.aload_n 0, 1) := by decide +kernel
theorem dX9_jumps_42 : decode cX9_jumps 42 = .ok (.aload 4, 2) := by decide +kernel
theorem dX9_jumps_44 : decode cX9_jumps 44 = .ok (.invokevirtual 199, 3) := by decide +kernel
theorem dX9_jumps_47 : decode cX9_jumps 47 = .ok (.if_icmp .lt 7, 3) := by decide +kernel
theorem dX9_jumps_50 : decode cX9_jumps 50 = .ok (.ldc2_w 230, 3) := by decide +kernel
theorem dX9_jumps_53 : decode cX9_jumps 53 = .ok (.lreturn, 1) := by decide +kernel
theorem dX9_jumps_54 : decode cX9_jumps 54 = .ok (.aload_n 0, 1) := by decide +kernel
theorem dX9_jumps_55 : decode cX9_jumps 55 = .ok (.getfield 63, 3) := by decide +kernel
theorem dX9_jumps_58 : decode cX9_jumps 58 = .ok (.iload_n 2, 1) := by decide +kernel
theorem dX9_jumps_59 : decode cX9_jumps 59 = .ok (.invokevirtual 239, 3) := by decide +kernel
theorem dX9_jumps_62 : decode cX9_jumps 62 = .ok (.aload_n 0, 1) := by decide +kernel
theorem dX9_jumps_63 : decode cX9_jumps 63 = .ok (.getfield 63, 3) := by decide +kernel
theorem dX9_jumps_66 : decode cX9_jumps 66 = .ok (.iload_n 2, 1) := by decide +kernel
theorem dX9_jumps_67 : decode cX9_jumps 67 = .ok (.invokevirtual 242, 3) := by decide +kernel
theorem dX9_jumps_70 : decode cX9_jumps 70 = .ok (.iload_n 3, 1) := by decide +kernel
theorem dX9_jumps_71 : decode cX9_jumps 71 = .ok (.invokestatic 235, 3) := by decide +kernel
theorem dX9_jumps_74 : decode cX9_jumps 74 = .ok (.lreturn, 1) := by decide +kernel
theorem dX9_lacks_0 : decode cX9_lacks 0 = .ok (.iload_n 1, 1) := by decide +kernel
theorem dX9_lacks_1 : decode cX9_lacks 1 = .ok (.invokestatic 77, 3) := by decide +kernel
theorem dX9_lacks_4 : decode cX9_lacks 4 = .ok (.ifCond .eq 5, 3) := by decide +kernel
theorem dX9_lacks_7 : decode cX9_lacks 7 = .ok (.iconst (-1), 1) := by decide +kernel
theorem dX9_lacks_8 : decode cX9_lacks 8 = .ok (.ireturn, 1) := by decide +kernel
theorem dX9_lacks_9 : decode cX9_lacks 9 = .ok (.iload_n 2, 1) := by decide +kernel
theorem dX9_lacks_10 : decode cX9_lacks 10 = .ok (.iload_n 3, 1) := by decide +kernel
theorem dX9_lacks_11 : decode cX9_lacks 11 = .ok (.invokestatic 217, 3) := by decide +kernel
theorem dX9_lacks_14 : decode cX9_lacks 14 = .ok (.ifCond .eq 6, 3) := by decide +kernel
theorem dX9_lacks_17 : decode cX9_lacks 17 = .ok (.bipush (-2), 2) := by decide +kernel
theorem dX9_lacks_19 : decode cX9_lacks 19 = .ok (.ireturn, 1) := by decide +kernel
theorem dX9_lacks_20 : decode cX9_lacks 20 = .ok (.aload_n 0, 1) := by decide +kernel
theorem dX9_lacks_21 : decode cX9_lacks 21 = .ok (.getfield 12, 3) := by decide +kernel
theorem dX9_lacks_24 : decode cX9_lacks 24 = .ok (.iload_n 1, 1) := by decide +kernel
theorem dX9_lacks_25 : decode cX9_lacks 25 = .ok (.invokevirtual 85, 3) := by decide +kernel
theorem dX9_lacks_28 : decode cX9_lacks 28 = .ok (.astore 4, 2) := by decide +kernel
theorem dX9_lacks_30 : decode cX9_lacks 30 = .ok (.aload 4, 2) := by decide +kernel
theorem dX9_lacks_32 : decode cX9_lacks 32 = .ok (.invokevirtual 93, 3) := by decide +kernel
theorem dX9_lacks_35 : decode cX9_lacks 35 = .ok (.ifCond .ne 6, 3) := by decide +kernel
theorem dX9_lacks_38 : decode cX9_lacks 38 = .ok (.bipush (-3), 2) := by decide +kernel
theorem dX9_lacks_40 : decode cX9_lacks 40 = .ok (.ireturn, 1) := by decide +kernel
theorem dX9_lacks_41 : decode cX9_lacks 41 = .ok (.aload_n 0, 1) := by decide +kernel
theorem dX9_lacks_42 : decode cX9_lacks 42 = .ok (.aload 4, 2) := by decide +kernel
theorem dX9_lacks_44 : decode cX9_lacks 44 = .ok (.iload_n 2, 1) := by decide +kernel
theorem dX9_lacks_45 : decode cX9_lacks 45 = .ok (.iload_n 3, 1) := by decide +kernel
theorem dX9_lacks_46 : decode cX9_lacks 46 = .ok (.invokevirtual 245, 3) := by decide +kernel
theorem dX9_lacks_49 : decode cX9_lacks 49 = .ok (.ireturn, 1) := by decide +kernel
theorem dX9_height_0 : decode cX9_height 0 = .ok (.iload_n 1, 1) := by decide +kernel
theorem dX9_height_1 : decode cX9_height 1 = .ok (.invokestatic 77, 3) := by decide +kernel
theorem dX9_height_4 : decode cX9_height 4 = .ok (.ifCond .ne 10, 3) := by decide +kernel
theorem dX9_height_7 : decode cX9_height 7 = .ok (.iload_n 2, 1) := by decide +kernel
theorem dX9_height_8 : decode cX9_height 8 = .ok (.invokestatic 249, 3) := by decide +kernel
theorem dX9_height_11 : decode cX9_height 11 = .ok (.ifCond .eq 5, 3) := by decide +kernel
theorem dX9_height_14 : decode cX9_height 14 = .ok (.iconst (-1), 1) := by decide +kernel
theorem dX9_height_15 : decode cX9_height 15 = .ok (.ireturn, 1) := by decide +kernel
theorem dX9_height_16 : decode cX9_height 16 = .ok (.iload_n 3, 1) := by decide +kernel
theorem dX9_height_17 : decode cX9_height 17 = .ok (.ifCond .lt 9, 3) := by decide +kernel
theorem dX9_height_20 : decode cX9_height 20 = .ok (.iload_n 3, 1) := by decide +kernel
theorem dX9_height_21 : decode cX9_height 21 = .ok (.bipush 60, 2) := by decide +kernel
theorem dX9_height_23 : decode cX9_height 23 = .ok (.if_icmp .le 6, 3) := by decide +kernel
theorem dX9_height_26 : decode cX9_height 26 = .ok (.bipush (-2), 2) := by decide +kernel
theorem dX9_height_28 : decode cX9_height 28 = .ok (.ireturn, 1) := by decide +kernel
theorem dX9_height_29 : decode cX9_height 29 = .ok (.iload_n 2, 1) := by decide +kernel
theorem dX9_height_30 : decode cX9_height 30 = .ok (.ifCond .ne 16, 3) := by decide +kernel
theorem dX9_height_33 : decode cX9_height 33 = .ok (.aload_n 0, 1) := by decide +kernel
theorem dX9_height_34 : decode cX9_height 34 = .ok (.getfield 12, 3) := by decide +kernel
theorem dX9_height_37 : decode cX9_height 37 = .ok (.iload_n 1, 1) := by decide +kernel
theorem dX9_height_38 : decode cX9_height 38 = .ok (.invokevirtual 85, 3) := by decide +kernel
theorem dX9_height_41 : decode cX9_height 41 = .ok (.iload_n 3, 1) := by decide +kernel
theorem dX9_height_42 : decode cX9_height 42 = .ok (.invokevirtual 252, 3) := by decide +kernel
theorem dX9_height_45 : decode cX9_height 45 = .ok (.ireturn, 1) := by decide +kernel
theorem dX9_height_46 : decode cX9_height 46 = .ok (.iload_n 2, 1) := by decide +kernel
theorem dX9_height_47 : decode cX9_height 47 = .ok (.iconst 1, 1) := by decide +kernel
theorem dX9_height_48 : decode cX9_height 48 = .ok (.if_icmp .ne 31, 3) := by decide +kernel
theorem dX9_height_51 : decode cX9_height 51 = .ok (.aload_n 0, 1) := by decide +kernel
theorem dX9_height_52 : decode cX9_height 52 = .ok (.getfield 12, 3) := by decide +kernel
theorem dX9_height_55 : decode cX9_height 55 = .ok (.iconst 0, 1) := by decide +kernel
theorem dX9_height_56 : decode cX9_height 56 = .ok (.invokevirtual 85, 3) := by decide +kernel
theorem dX9_height_59 : decode cX9_height 59 = .ok (.iload_n 3, 1) := by decide +kernel
theorem dX9_height_60 : decode cX9_height 60 = .ok (.invokevirtual 252, 3) := by decide +kernel
theorem dX9_height_63 : decode cX9_height 63 = .ok (.aload_n 0, 1) := by decide +kernel
theorem dX9_height_64 : decode cX9_height 64 = .ok (.getfield 12, 3) := by decide +kernel
theorem dX9_height_67 : decode cX9_height 67 = .ok (.iconst 1, 1) := by decide +kernel
theorem dX9_height_68 : decode cX9_height 68 = .ok (.invokevirtual 85, 3) := by decide +kernel
theorem dX9_height_71 : decode cX9_height 71 = .ok (.iload_n 3, 1) := by decide +kernel
theorem dX9_height_72 : decode cX9_height 72 = .ok (.invokevirtual 252, 3) := by decide +kernel
theorem dX9_height_75 : decode cX9_height 75 = .ok (.invokestatic 255, 3) := by decide +kernel
theorem dX9_height_78 : decode cX9_height 78 = .ok (.ireturn, 1) := by decide +kernel
theorem dX9_height_79 : decode cX9_height 79 = .ok (.aload_n 0, 1) := by decide +kernel
theorem dX9_height_80 : decode cX9_height 80 = .ok (.getfield 70, 3) := by decide +kernel
theorem dX9_height_83 : decode cX9_height 83 = .ok (.invokevirtual 258, 3) := by decide +kernel
theorem dX9_height_86 : decode cX9_height 86 = .ok (.iload_n 2, 1) := by decide +kernel
theorem dX9_height_87 : decode cX9_height 87 = .ok (.iconst 2, 1) := by decide +kernel
theorem dX9_height_88 : decode cX9_height 88 = .ok (.if_icmp .ne 36, 3) := by decide +kernel
theorem dX9_height_91 : decode cX9_height 91 = .ok (.aload_n 0, 1) := by decide +kernel
theorem dX9_height_92 : decode cX9_height 92 = .ok (.getfield 70, 3) := by decide +kernel
theorem dX9_height_95 : decode cX9_height 95 = .ok (.aload_n 0, 1) := by decide +kernel
theorem dX9_height_96 : decode cX9_height 96 = .ok (.getfield 12, 3) := by decide +kernel
theorem dX9_height_99 : decode cX9_height 99 = .ok (.iconst 0, 1) := by decide +kernel
theorem dX9_height_100 : decode cX9_height 100 = .ok (.invokevirtual 85, 3) := by decide +kernel
theorem dX9_height_103 : decode cX9_height 103 = .ok (.invokevirtual 261, 3) := by decide +kernel
theorem dX9_height_106 : decode cX9_height 106 = .ok (.aload_n 0, 1) := by decide +kernel
theorem dX9_height_107 : decode cX9_height 107 = .ok (.getfield 70, 3) := by decide +kernel
theorem dX9_height_110 : decode cX9_height 110 = .ok (.aload_n 0, 1) := by decide +kernel
theorem dX9_height_111 : decode cX9_height 111 = .ok (.getfield 12, 3) := by decide +kernel
theorem dX9_height_114 : decode cX9_height 114 = .ok (.iconst 1, 1) := by decide +kernel
theorem dX9_height_115 : decode cX9_height 115 = .ok (.invokevirtual 85, 3) := by decide +kernel
theorem dX9_height_118 : decode cX9_height 118 = .ok (.invokevirtual 261, 3) := by decide +kernel
theorem dX9_height_121 : decode cX9_height 121 = .ok (.goto 34, 3) := by decide +kernel
theorem dX9_height_124 : decode cX9_height 124 = .ok (.bipush 10, 2) := by decide +kernel
theorem dX9_height_126 : decode cX9_height 126 = .ok (.istore 4, 2) := by decide +kernel
theorem dX9_height_128 : decode cX9_height 128 = .ok (.iload 4, 2) := by decide +kernel
theorem dX9_height_130 : decode cX9_height 130 = .ok (.iload_n 2, 1) := by decide +kernel
theorem dX9_height_131 : decode cX9_height 131 = .ok (.if_icmp .ge 24, 3) := by decide +kernel
theorem dX9_height_134 : decode cX9_height 134 = .ok (.aload_n 0, 1) := by decide +kernel
theorem dX9_height_135 : decode cX9_height 135 = .ok (.getfield 70, 3) := by decide +kernel
theorem dX9_height_138 : decode cX9_height 138 = .ok (.aload_n 0, 1) := by decide +kernel
theorem dX9_height_139 : decode cX9_height 139 = .ok (.getfield 12, 3) := by decide +kernel
theorem dX9_height_142 : decode cX9_height 142 = .ok (.iload_n 1, 1) := by decide +kernel
theorem dX9_height_143 : decode cX9_height 143 = .ok (.invokevirtual 85, 3) := by decide +kernel
theorem dX9_height_146 : decode cX9_height 146 = .ok (.invokevirtual 261, 3) := by decide +kernel
theorem dX9_height_149 : decode cX9_height 149 = .ok (.iinc 4 1, 3) := by decide +kernel
theorem dX9_height_152 : decode cX9_height 152 = .ok (.goto (-24), 3) := by decide +kernel
theorem dX9_height_155 : decode cX9_height 155 = .ok (.aload_n 0, 1) := by decide +kernel
theorem dX9_height_156 : decode cX9_height 156 = .ok (.getfield 70, 3) := by decide +kernel
theorem dX9_height_159 : decode cX9_height 159 = .ok (.iload_n 3, 1) := by decide +kernel
theorem dX9_height_160 : decode cX9_height 160 = .ok (.invokevirtual 264, 3) := by decide +kernel
theorem dX9_height_163 : decode cX9_height 163 = .ok (.ireturn, 1) := by decide +kernel
theorem dX9_reduces_0 : decode cX9_reduces 0 = .ok (.iload_n 1, 1) := by decide +kernel
theorem dX9_reduces_1 : decode cX9_reduces 1 = .ok (.ifCond .lt 8, 3) := by decide +kernel
theorem dX9_reduces_4 : decode cX9_reduces 4 = .ok (.iload_n 1, 1) := by decide +kernel
theorem dX9_reduces_5 : decode cX9_reduces 5 = .ok (.iconst 1, 1) := by decide +kernel
theorem dX9_reduces_6 : decode cX9_reduces 6 = .ok (.if_icmp .le 5, 3) := by decide +kernel
theorem dX9_reduces_9 : decode cX9_reduces 9 = .ok (.iconst (-1), 1) := by decide +kernel
theorem dX9_reduces_10 : decode cX9_reduces 10 = .ok (.ireturn, 1) := by decide +kernel
theorem dX9_reduces_11 : decode cX9_reduces 11 = .ok (.iload_n 1, 1) := by decide +kernel
theorem dX9_reduces_12 : decode cX9_reduces 12 = .ok (.ifCond .ne 10, 3) := by decide +kernel
theorem dX9_reduces_15 : decode cX9_reduces 15 = .ok (.aload_n 0, 1) := by decide +kernel
theorem dX9_reduces_16 : decode cX9_reduces 16 = .ok (.invokevirtual 267, 3) := by decide +kernel
theorem dX9_reduces_19 : decode cX9_reduces 19 = .ok (.goto 7, 3) := by decide +kernel
theorem dX9_reduces_22 : decode cX9_reduces 22 = .ok (.aload_n 0, 1) := by decide +kernel
theorem dX9_reduces_23 : decode cX9_reduces 23 = .ok (.invokevirtual 270, 3) := by decide +kernel
theorem dX9_reduces_26 : decode cX9_reduces 26 = .ok (.ireturn, 1) := by decide +kernel
theorem dX9_see_0 : decode cX9_see 0 = .ok (.iload_n 1, 1) := by decide +kernel
theorem dX9_see_1 : decode cX9_see 1 = .ok (.iconst (-1), 1) := by decide +kernel
theorem dX9_see_2 : decode cX9_see 2 = .ok (.if_icmp .ne 15, 3) := by decide +kernel
theorem dX9_see_5 : decode cX9_see 5 = .ok (.aload_n 0, 1) := by decide +kernel
theorem dX9_see_6 : decode cX9_see 6 = .ok (.getfield 12, 3) := by decide +kernel
theorem dX9_see_9 : decode cX9_see 9 = .ok (.getfield 273, 3) := by decide +kernel
theorem dX9_see_12 : decode cX9_see 12 = .ok (.invokevirtual 277, 3) := by decide +kernel
theorem dX9_see_15 : decode cX9_see 15 = .ok (.iconst 0, 1) := by decide +kernel
theorem dX9_see_16 : decode cX9_see 16 = .ok (.ireturn, 1) := by decide +kernel
theorem dX9_see_17 : decode cX9_see 17 = .ok (.iload_n 1, 1) := by decide +kernel
theorem dX9_see_18 : decode cX9_see 18 = .ok (.ifCond .lt 9, 3) := by decide +kernel
theorem dX9_see_21 : decode cX9_see 21 = .ok (.iload_n 1, 1) := by decide +kernel
theorem dX9_see_22 : decode cX9_see 22 = .ok (.bipush 99, 2) := by decide +kernel
theorem dX9_see_24 : decode cX9_see 24 = .ok (.if_icmp .le 5, 3) := by decide +kernel
theorem dX9_see_27 : decode cX9_see 27 = .ok (.iconst (-1), 1) := by decide +kernel
theorem dX9_see_28 : decode cX9_see 28 = .ok (.ireturn, 1) := by decide +kernel
theorem dX9_see_29 : decode cX9_see 29 = .ok (.iload_n 2, 1) := by decide +kernel
theorem dX9_see_30 : decode cX9_see 30 = .ok (.iload_n 3, 1) := by decide +kernel
theorem dX9_see_31 : decode cX9_see 31 = .ok (.invokestatic 217, 3) := by decide +kernel
theorem dX9_see_34 : decode cX9_see 34 = .ok (.ifCond .eq 6, 3) := by decide +kernel
theorem dX9_see_37 : decode cX9_see 37 = .ok (.bipush (-2), 2) := by decide +kernel
theorem dX9_see_39 : decode cX9_see 39 = .ok (.ireturn, 1) := by decide +kernel
theorem dX9_see_40 : decode cX9_see 40 = .ok (.aload_n 0, 1) := by decide +kernel
theorem dX9_see_41 : decode cX9_see 41 = .ok (.getfield 12, 3) := by decide +kernel
theorem dX9_see_44 : decode cX9_see 44 = .ok (.getfield 273, 3) := by decide +kernel
theorem dX9_see_47 : decode cX9_see 47 = .ok (.iload_n 1, 1) := by decide +kernel
theorem dX9_see_48 : decode cX9_see 48 = .ok (.iload_n 2, 1) := by decide +kernel
theorem dX9_see_49 : decode cX9_see 49 = .ok (.iload_n 3, 1) := by decide +kernel
theorem dX9_see_50 : decode cX9_see 50 = .ok (.invokevirtual 280, 3) := by decide +kernel
theorem dX9_see_53 : decode cX9_see 53 = .ok (.ireturn, 1) := by decide +kernel
theorem dX9_fits_0 : decode cX9_fits 0 = .ok (.aload_n 0, 1) := by decide +kernel
theorem dX9_fits_1 : decode cX9_fits 1 = .ok (.iload_n 1, 1) := by decide +kernel
theorem dX9_fits_2 : decode cX9_fits 2 = .ok (.iload_n 2, 1) := by decide +kernel
theorem dX9_fits_3 : decode cX9_fits 3 = .ok (.invokevirtual 105, 3) := by decide +kernel
theorem dX9_fits_6 : decode cX9_fits 6 = .ok (.ifCond .ne 23, 3) := by decide +kernel
theorem dX9_fits_9 : decode cX9_fits 9 = .ok (.iload_n 3, 1) := by decide +kernel
theorem dX9_fits_10 : decode cX9_fits 10 = .ok (.ifCond .lt 19, 3) := by decide +kernel
theorem dX9_fits_13 : decode cX9_fits 13 = .ok (.iload_n 3, 1) := by decide +kernel
theorem dX9_fits_14 : decode cX9_fits 14 = .ok (.iconst 1, 1) := by decide +kernel
theorem dX9_fits_15 : decode cX9_fits 15 = .ok (.if_icmp .gt 14, 3) := by decide +kernel
theorem dX9_fits_18 : decode cX9_fits 18 = .ok (.iload 4, 2) := by decide +kernel
theorem dX9_fits_20 : decode cX9_fits 20 = .ok (.ifCond .lt 9, 3) := by decide +kernel
theorem dX9_fits_23 : decode cX9_fits 23 = .ok (.iload 4, 2) := by decide +kernel
theorem dX9_fits_25 : decode cX9_fits 25 = .ok (.iconst 1, 1) := by decide +kernel
theorem dX9_fits_26 : decode cX9_fits 26 = .ok (.if_icmp .le 5, 3) := by decide +kernel
theorem dX9_fits_29 : decode cX9_fits 29 = .ok (.iconst (-1), 1) := by decide +kernel
theorem dX9_fits_30 : decode cX9_fits 30 = .ok (.ireturn, 1) := by decide +kernel
theorem dX9_fits_31 : decode cX9_fits 31 = .ok (.iconst 0, 1) := by decide +kernel
theorem dX9_fits_32 : decode cX9_fits 32 = .ok (.istore 5, 2) := by decide +kernel
theorem dX9_fits_34 : decode cX9_fits 34 = .ok (.bipush (-5), 2) := by decide +kernel
theorem dX9_fits_36 : decode cX9_fits 36 = .ok (.istore 6, 2) := by decide +kernel
theorem dX9_fits_38 : decode cX9_fits 38 = .ok (.iconst 0, 1) := by decide +kernel
theorem dX9_fits_39 : decode cX9_fits 39 = .ok (.istore 7, 2) := by decide +kernel
theorem dX9_fits_41 : decode cX9_fits 41 = .ok (.iload 7, 2) := by decide +kernel
theorem dX9_fits_43 : decode cX9_fits 43 = .ok (.bipush 9, 2) := by decide +kernel
theorem dX9_fits_45 : decode cX9_fits 45 = .ok (.if_icmp .gt 40, 3) := by decide +kernel
theorem dX9_fits_48 : decode cX9_fits 48 = .ok (.aload_n 0, 1) := by decide +kernel
theorem dX9_fits_49 : decode cX9_fits 49 = .ok (.iload_n 1, 1) := by decide +kernel
theorem dX9_fits_50 : decode cX9_fits 50 = .ok (.iload_n 2, 1) := by decide +kernel
theorem dX9_fits_51 : decode cX9_fits 51 = .ok (.iload_n 3, 1) := by decide +kernel
theorem dX9_fits_52 : decode cX9_fits 52 = .ok (.iload 7, 2) := by decide +kernel
theorem dX9_fits_54 : decode cX9_fits 54 = .ok (.invokevirtual 282, 3) := by decide +kernel
theorem dX9_fits_57 : decode cX9_fits 57 = .ok (.ifCond .eq 22, 3) := by decide +kernel
theorem dX9_fits_60 : decode cX9_fits 60 = .ok (.iinc 5 1, 3) := by decide +kernel
theorem dX9_fits_63 : decode cX9_fits 63 = .ok (.iload 6, 2) := by decide +kernel
theorem dX9_fits_65 : decode cX9_fits 65 = .ok (.bipush (-5), 2) := by decide +kernel
theorem dX9_fits_67 : decode cX9_fits 67 = .ok (.if_icmp .ne 8, 3) := by decide +kernel
theorem dX9_fits_70 : decode cX9_fits 70 = .ok (.iload 7, 2) := by decide +kernel
theorem dX9_fits_72 : decode cX9_fits 72 = .ok (.goto 5, 3) := by decide +kernel
theorem dX9_fits_75 : decode cX9_fits 75 = .ok (.iload 6, 2) := by decide +kernel
theorem dX9_fits_77 : decode cX9_fits 77 = .ok (.istore 6, 2) := by decide +kernel
theorem dX9_fits_79 : decode cX9_fits 79 = .ok (.iinc 7 1, 3) := by decide +kernel
theorem dX9_fits_82 : decode cX9_fits 82 = .ok (.goto (-41), 3) := by decide +kernel
theorem dX9_fits_85 : decode cX9_fits 85 = .ok (.iload 4, 2) := by decide +kernel
theorem dX9_fits_87 : decode cX9_fits 87 = .ok (.ifCond .ne 8, 3) := by decide +kernel
theorem dX9_fits_90 : decode cX9_fits 90 = .ok (.iload 5, 2) := by decide +kernel
theorem dX9_fits_92 : decode cX9_fits 92 = .ok (.goto 5, 3) := by decide +kernel
theorem dX9_fits_95 : decode cX9_fits 95 = .ok (.iload 6, 2) := by decide +kernel
theorem dX9_fits_97 : decode cX9_fits 97 = .ok (.ireturn, 1) := by decide +kernel
theorem dX9_odds_0 : decode cX9_odds 0 = .ok (.iload_n 1, 1) := by decide +kernel
theorem dX9_odds_1 : decode cX9_odds 1 = .ok (.invokestatic 77, 3) := by decide +kernel
theorem dX9_odds_4 : decode cX9_odds 4 = .ok (.ifCond .ne 19, 3) := by decide +kernel
theorem dX9_odds_7 : decode cX9_odds 7 = .ok (.iload_n 2, 1) := by decide +kernel
theorem dX9_odds_8 : decode cX9_odds 8 = .ok (.iload_n 3, 1) := by decide +kernel
theorem dX9_odds_9 : decode cX9_odds 9 = .ok (.invokestatic 217, 3) := by decide +kernel
theorem dX9_odds_12 : decode cX9_odds 12 = .ok (.ifCond .ne 11, 3) := by decide +kernel
theorem dX9_odds_15 : decode cX9_odds 15 = .ok (.iload 4, 2) := by decide +kernel
theorem dX9_odds_17 : decode cX9_odds 17 = .ok (.invokestatic 227, 3) := by decide +kernel
theorem dX9_odds_20 : decode cX9_odds 20 = .ok (.ifCond .eq 7, 3) := by decide +kernel
theorem dX9_odds_23 : decode cX9_odds 23 = .ok (.ldc2_w 230, 3) := by decide +kernel
theorem dX9_odds_26 : decode cX9_odds 26 = .ok (.lreturn, 1) := by decide +kernel
theorem dX9_odds_27 : decode cX9_odds 27 = .ok (.aload_n 0, 1) := by decide +kernel
theorem dX9_odds_28 : decode cX9_odds 28 = .ok (.getfield 12, 3) := by decide +kernel
theorem dX9_odds_31 : decode cX9_odds 31 = .ok (.iload_n 1, 1) := by decide +kernel
theorem dX9_odds_32 : decode cX9_odds 32 = .ok (.invokevirtual 85, 3) := by decide +kernel
theorem dX9_odds_35 : decode cX9_odds 35 = .ok (.astore 5, 2) := by decide +kernel
theorem dX9_odds_37 : decode cX9_odds 37 = .ok (.aload 5, 2) := by decide +kernel
theorem dX9_odds_39 : decode cX9_odds 39 = .ok (.invokevirtual 93, 3) := by decide +kernel
theorem dX9_odds_42 : decode cX9_odds 42 = .ok (.ifCond .ne 7, 3) := by decide +kernel
theorem dX9_odds_45 : decode cX9_odds 45 = .ok (.ldc2_w 230, 3) := by decide +kernel
theorem dX9_odds_48 : decode cX9_odds 48 = .ok (.lreturn, 1) := by decide +kernel
theorem dX9_odds_49 : decode cX9_odds 49 = .ok (.bipush 100, 2) := by decide +kernel
theorem dX9_odds_51 : decode cX9_odds 51 = .ok (.aload_n 0, 1) := by decide +kernel
theorem dX9_odds_52 : decode cX9_odds 52 = .ok (.aload 5, 2) := by decide +kernel
theorem dX9_odds_54 : decode cX9_odds 54 = .ok (.iload_n 2, 1) := by decide +kernel
theorem dX9_odds_55 : decode cX9_odds 55 = .ok (.iload_n 3, 1) := by decide +kernel
theorem dX9_odds_56 : decode cX9_odds 56 = .ok (.invokevirtual 245, 3) := by decide +kernel
theorem dX9_odds_59 : decode cX9_odds 59 = .ok (.isub, 1) := by decide +kernel
theorem dX9_odds_60 : decode cX9_odds 60 = .ok (.bipush 100, 2) := by decide +kernel
theorem dX9_odds_62 : decode cX9_odds 62 = .ok (.iload 4, 2) := by decide +kernel
theorem dX9_odds_64 : decode cX9_odds 64 = .ok (.invokestatic 235, 3) := by decide +kernel
theorem dX9_odds_67 : decode cX9_odds 67 = .ok (.lreturn, 1) := by decide +kernel
theorem dX9_mean_0 : decode cX9_mean 0 = .ok (.iload_n 1, 1) := by decide +kernel
theorem dX9_mean_1 : decode cX9_mean 1 = .ok (.invokestatic 77, 3) := by decide +kernel
theorem dX9_mean_4 : decode cX9_mean 4 = .ok (.ifCond .ne 10, 3) := by decide +kernel
theorem dX9_mean_7 : decode cX9_mean 7 = .ok (.iload_n 2, 1) := by decide +kernel
theorem dX9_mean_8 : decode cX9_mean 8 = .ok (.invokestatic 227, 3) := by decide +kernel
theorem dX9_mean_11 : decode cX9_mean 11 = .ok (.ifCond .eq 7, 3) := by decide +kernel
theorem dX9_mean_14 : decode cX9_mean 14 = .ok (.ldc2_w 230, 3) := by decide +kernel
theorem dX9_mean_17 : decode cX9_mean 17 = .ok (.lreturn, 1) := by decide +kernel
theorem dX9_mean_18 : decode cX9_mean 18 = .ok (.aload_n 0, 1) := by decide +kernel
theorem dX9_mean_19 : decode cX9_mean 19 = .ok (.getfield 12, 3) := by decide +kernel
theorem dX9_mean_22 : decode cX9_mean 22 = .ok (.iload_n 1, 1) := by decide +kernel
theorem dX9_mean_23 : decode cX9_mean 23 = .ok (.invokevirtual 85, 3) := by decide +kernel
theorem dX9_mean_26 : decode cX9_mean 26 = .ok (.astore_n 3, 1) := by decide +kernel
theorem dX9_mean_27 : decode cX9_mean 27 = .ok (.aload_n 3, 1) := by decide +kernel
theorem dX9_mean_28 : decode cX9_mean 28 = .ok (.invokevirtual 93, 3) := by decide +kernel
theorem dX9_mean_31 : decode cX9_mean 31 = .ok (.ifCond .ne 7, 3) := by decide +kernel
theorem dX9_mean_34 : decode cX9_mean 34 = .ok (.ldc2_w 230, 3) := by decide +kernel
theorem dX9_mean_37 : decode cX9_mean 37 = .ok (.lreturn, 1) := by decide +kernel
theorem dX9_mean_38 : decode cX9_mean 38 = .ok (.aload_n 3, 1) := by decide +kernel
theorem dX9_mean_39 : decode cX9_mean 39 = .ok (.invokevirtual 286, 3) := by decide +kernel
theorem dX9_mean_42 : decode cX9_mean 42 = .ok (.aload_n 3, 1) := by decide +kernel
theorem dX9_mean_43 : decode cX9_mean 43 = .ok (.invokevirtual 93, 3) := by decide +kernel
theorem dX9_mean_46 : decode cX9_mean 46 = .ok (.iload_n 2, 1) := by decide +kernel
theorem dX9_mean_47 : decode cX9_mean 47 = .ok (.invokestatic 235, 3) := by decide +kernel
theorem dX9_mean_50 : decode cX9_mean 50 = .ok (.lreturn, 1) := by decide +kernel
theorem dX9_event_0 : decode cX9_event 0 = .ok (.iload_n 1, 1) := by decide +kernel
theorem dX9_event_1 : decode cX9_event 1 = .ok (.iconst (-1), 1) := by decide +kernel
theorem dX9_event_2 : decode cX9_event 2 = .ok (.if_icmp .ne 15, 3) := by decide +kernel
theorem dX9_event_5 : decode cX9_event 5 = .ok (.aload_n 0, 1) := by decide +kernel
theorem dX9_event_6 : decode cX9_event 6 = .ok (.getfield 12, 3) := by decide +kernel
theorem dX9_event_9 : decode cX9_event 9 = .ok (.getfield 289, 3) := by decide +kernel
theorem dX9_event_12 : decode cX9_event 12 = .ok (.invokevirtual 277, 3) := by decide +kernel
theorem dX9_event_15 : decode cX9_event 15 = .ok (.iconst 0, 1) := by decide +kernel
theorem dX9_event_16 : decode cX9_event 16 = .ok (.ireturn, 1) := by decide +kernel
theorem dX9_event_17 : decode cX9_event 17 = .ok (.iload_n 1, 1) := by decide +kernel
theorem dX9_event_18 : decode cX9_event 18 = .ok (.ifCond .lt 8, 3) := by decide +kernel
theorem dX9_event_21 : decode cX9_event 21 = .ok (.iload_n 1, 1) := by decide +kernel
theorem dX9_event_22 : decode cX9_event 22 = .ok (.iconst 2, 1) := by decide +kernel
theorem dX9_event_23 : decode cX9_event 23 = .ok (.if_icmp .le 5, 3) := by decide +kernel
theorem dX9_event_26 : decode cX9_event 26 = .ok (.iconst (-1), 1) := by decide +kernel
theorem dX9_event_27 : decode cX9_event 27 = .ok (.ireturn, 1) := by decide +kernel
theorem dX9_event_28 : decode cX9_event 28 = .ok (.iload_n 1, 1) := by decide +kernel
theorem dX9_event_29 : decode cX9_event 29 = .ok (.iload_n 2, 1) := by decide +kernel
theorem dX9_event_30 : decode cX9_event 30 = .ok (.invokestatic 292, 3) := by decide +kernel
theorem dX9_event_33 : decode cX9_event 33 = .ok (.ifCond .eq 6, 3) := by decide +kernel
theorem dX9_event_36 : decode cX9_event 36 = .ok (.bipush (-2), 2) := by decide +kernel
theorem dX9_event_38 : decode cX9_event 38 = .ok (.ireturn, 1) := by decide +kernel
theorem dX9_event_39 : decode cX9_event 39 = .ok (.aload_n 0, 1) := by decide +kernel
theorem dX9_event_40 : decode cX9_event 40 = .ok (.getfield 12, 3) := by decide +kernel
theorem dX9_event_43 : decode cX9_event 43 = .ok (.getfield 289, 3) := by decide +kernel
theorem dX9_event_46 : decode cX9_event 46 = .ok (.iload_n 1, 1) := by decide +kernel
theorem dX9_event_47 : decode cX9_event 47 = .ok (.iload_n 2, 1) := by decide +kernel
theorem dX9_event_48 : decode cX9_event 48 = .ok (.iconst 0, 1) := by decide +kernel
theorem dX9_event_49 : decode cX9_event 49 = .ok (.invokevirtual 280, 3) := by decide +kernel
theorem dX9_event_52 : decode cX9_event 52 = .ok (.ireturn, 1) := by decide +kernel
theorem dX9_after_0 : decode cX9_after 0 = .ok (.iload_n 1, 1) := by decide +kernel
theorem dX9_after_1 : decode cX9_after 1 = .ok (.ifCond .lt 8, 3) := by decide +kernel
theorem dX9_after_4 : decode cX9_after 4 = .ok (.iload_n 1, 1) := by decide +kernel
theorem dX9_after_5 : decode cX9_after 5 = .ok (.iconst 2, 1) := by decide +kernel
theorem dX9_after_6 : decode cX9_after 6 = .ok (.if_icmp .le 5, 3) := by decide +kernel
theorem dX9_after_9 : decode cX9_after 9 = .ok (.iconst (-1), 1) := by decide +kernel
theorem dX9_after_10 : decode cX9_after 10 = .ok (.ireturn, 1) := by decide +kernel
theorem dX9_after_11 : decode cX9_after 11 = .ok (.aload_n 0, 1) := by decide +kernel
theorem dX9_after_12 : decode cX9_after 12 = .ok (.getfield 49, 3) := by decide +kernel
theorem dX9_after_15 : decode cX9_after 15 = .ok (.aload_n 0, 1) := by decide +kernel
theorem dX9_after_16 : decode cX9_after 16 = .ok (.getfield 12, 3) := by decide +kernel
theorem dX9_after_19 : decode cX9_after 19 = .ok (.iconst 0, 1) := by decide +kernel
theorem dX9_after_20 : decode cX9_after 20 = .ok (.invokevirtual 85, 3) := by decide +kernel
theorem dX9_after_23 : decode cX9_after 23 = .ok (.invokevirtual 136, 3) := by decide +kernel
theorem dX9_after_26 : decode cX9_after 26 = .ok (.iconst 0, 1) := by decide +kernel
theorem dX9_after_27 : decode cX9_after 27 = .ok (.istore_n 2, 1) := by decide +kernel
theorem dX9_after_28 : decode cX9_after 28 = .ok (.iload_n 2, 1) := by decide +kernel
theorem dX9_after_29 : decode cX9_after 29 = .ok (.aload_n 0, 1) := by decide +kernel
theorem dX9_after_30 : decode cX9_after 30 = .ok (.getfield 12, 3) := by decide +kernel
theorem dX9_after_33 : decode cX9_after 33 = .ok (.getfield 289, 3) := by decide +kernel
theorem dX9_after_36 : decode cX9_after 36 = .ok (.invokevirtual 295, 3) := by decide +kernel
theorem dX9_after_39 : decode cX9_after 39 = .ok (.if_icmp .ge 35, 3) := by decide +kernel
theorem dX9_after_42 : decode cX9_after 42 = .ok (.aload_n 0, 1) := by decide +kernel
theorem dX9_after_43 : decode cX9_after 43 = .ok (.aload_n 0, 1) := by decide +kernel
theorem dX9_after_44 : decode cX9_after 44 = .ok (.getfield 12, 3) := by decide +kernel
theorem dX9_after_47 : decode cX9_after 47 = .ok (.getfield 289, 3) := by decide +kernel
theorem dX9_after_50 : decode cX9_after 50 = .ok (.iload_n 2, 1) := by decide +kernel
theorem dX9_after_51 : decode cX9_after 51 = .ok (.invokevirtual 296, 3) := by decide +kernel
theorem dX9_after_54 : decode cX9_after 54 = .ok (.aload_n 0, 1) := by decide +kernel
theorem dX9_after_55 : decode cX9_after 55 = .ok (.getfield 12, 3) := by decide +kernel
theorem dX9_after_58 : decode cX9_after 58 = .ok (.getfield 289, 3) := by decide +kernel
theorem dX9_after_61 : decode cX9_after 61 = .ok (.iload_n 2, 1) := by decide +kernel
theorem dX9_after_62 : decode cX9_after 62 = .ok (.invokevirtual 299, 3) := by decide +kernel
theorem dX9_after_65 : decode cX9_after 65 = .ok (.invokevirtual 302, 3) := by decide +kernel
theorem dX9_after_68 : decode cX9_after 68 = .ok (.iinc 2 1, 3) := by decide +kernel
theorem dX9_after_71 : decode cX9_after 71 = .ok (.goto (-43), 3) := by decide +kernel
theorem dX9_after_74 : decode cX9_after 74 = .ok (.iload_n 1, 1) := by decide +kernel
theorem dX9_after_75 : decode cX9_after 75 = .ok (.ifCond .ne 11, 3) := by decide +kernel
theorem dX9_after_78 : decode cX9_after 78 = .ok (.aload_n 0, 1) := by decide +kernel
theorem dX9_after_79 : decode cX9_after 79 = .ok (.getfield 49, 3) := by decide +kernel
theorem dX9_after_82 : decode cX9_after 82 = .ok (.invokevirtual 93, 3) := by decide +kernel
theorem dX9_after_85 : decode cX9_after 85 = .ok (.ireturn, 1) := by decide +kernel
theorem dX9_after_86 : decode cX9_after 86 = .ok (.aload_n 0, 1) := by decide +kernel
theorem dX9_after_87 : decode cX9_after 87 = .ok (.getfield 49, 3) := by decide +kernel
theorem dX9_after_90 : decode cX9_after 90 = .ok (.invokevirtual 93, 3) := by decide +kernel
theorem dX9_after_93 : decode cX9_after 93 = .ok (.ifCond .ne 6, 3) := by decide +kernel
theorem dX9_after_96 : decode cX9_after 96 = .ok (.bipush (-3), 2) := by decide +kernel
theorem dX9_after_98 : decode cX9_after 98 = .ok (.ireturn, 1) := by decide +kernel
theorem dX9_after_99 : decode cX9_after 99 = .ok (.iload_n 1, 1) := by decide +kernel
theorem dX9_after_100 : decode cX9_after 100 = .ok (.iconst 1, 1) := by decide +kernel
theorem dX9_after_101 : decode cX9_after 101 = .ok (.if_icmp .ne 14, 3) := by decide +kernel
theorem dX9_after_104 : decode cX9_after 104 = .ok (.aload_n 0, 1) := by decide +kernel
theorem dX9_after_105 : decode cX9_after 105 = .ok (.aload_n 0, 1) := by decide +kernel
theorem dX9_after_106 : decode cX9_after 106 = .ok (.getfield 49, 3) := by decide +kernel
theorem dX9_after_109 : decode cX9_after 109 = .ok (.invokevirtual 199, 3) := by decide +kernel
theorem dX9_after_112 : decode cX9_after 112 = .ok (.goto 11, 3) := by decide +kernel
theorem dX9_after_115 : decode cX9_after 115 = .ok (.aload_n 0, 1) := by decide +kernel
theorem dX9_after_116 : decode cX9_after 116 = .ok (.aload_n 0, 1) := by decide +kernel
theorem dX9_after_117 : decode cX9_after 117 = .ok (.getfield 49, 3) := by decide +kernel
theorem dX9_after_120 : decode cX9_after 120 = .ok (.invokevirtual 196, 3) := by decide +kernel
theorem dX9_after_123 : decode cX9_after 123 = .ok (.ireturn, 1) := by decide +kernel
theorem dX9_book_0 : decode cX9_book 0 = .ok (.iload_n 1, 1) := by decide +kernel
theorem dX9_book_1 : decode cX9_book 1 = .ok (.iconst (-1), 1) := by decide +kernel
theorem dX9_book_2 : decode cX9_book 2 = .ok (.if_icmp .ne 15, 3) := by decide +kernel
theorem dX9_book_5 : decode cX9_book 5 = .ok (.aload_n 0, 1) := by decide +kernel
theorem dX9_book_6 : decode cX9_book 6 = .ok (.getfield 12, 3) := by decide +kernel
theorem dX9_book_9 : decode cX9_book 9 = .ok (.getfield 305, 3) := by decide +kernel
theorem dX9_book_12 : decode cX9_book 12 = .ok (.invokevirtual 277, 3) := by decide +kernel
theorem dX9_book_15 : decode cX9_book 15 = .ok (.iconst 0, 1) := by decide +kernel
theorem dX9_book_16 : decode cX9_book 16 = .ok (.ireturn, 1) := by decide +kernel
theorem dX9_book_17 : decode cX9_book 17 = .ok (.iload_n 1, 1) := by decide +kernel
theorem dX9_book_18 : decode cX9_book 18 = .ok (.ifCond .lt 9, 3) := by decide +kernel
theorem dX9_book_21 : decode cX9_book 21 = .ok (.iload_n 1, 1) := by decide +kernel
theorem dX9_book_22 : decode cX9_book 22 = .ok (.bipush 99, 2) := by decide +kernel
theorem dX9_book_24 : decode cX9_book 24 = .ok (.if_icmp .le 5, 3) := by decide +kernel
theorem dX9_book_27 : decode cX9_book 27 = .ok (.iconst (-1), 1) := by decide +kernel
theorem dX9_book_28 : decode cX9_book 28 = .ok (.ireturn, 1) := by decide +kernel
theorem dX9_book_29 : decode cX9_book 29 = .ok (.iload_n 2, 1) := by decide +kernel
theorem dX9_book_30 : decode cX9_book 30 = .ok (.ifCond .lt 8, 3) := by decide +kernel
theorem dX9_book_33 : decode cX9_book 33 = .ok (.iload_n 2, 1) := by decide +kernel
theorem dX9_book_34 : decode cX9_book 34 = .ok (.iconst 1, 1) := by decide +kernel
theorem dX9_book_35 : decode cX9_book 35 = .ok (.if_icmp .le 6, 3) := by decide +kernel
theorem dX9_book_38 : decode cX9_book 38 = .ok (.bipush (-2), 2) := by decide +kernel
theorem dX9_book_40 : decode cX9_book 40 = .ok (.ireturn, 1) := by decide +kernel
theorem dX9_book_41 : decode cX9_book 41 = .ok (.aload_n 0, 1) := by decide +kernel
theorem dX9_book_42 : decode cX9_book 42 = .ok (.getfield 12, 3) := by decide +kernel
theorem dX9_book_45 : decode cX9_book 45 = .ok (.getfield 305, 3) := by decide +kernel
theorem dX9_book_48 : decode cX9_book 48 = .ok (.iload_n 1, 1) := by decide +kernel
theorem dX9_book_49 : decode cX9_book 49 = .ok (.iload_n 2, 1) := by decide +kernel
theorem dX9_book_50 : decode cX9_book 50 = .ok (.iconst 0, 1) := by decide +kernel
theorem dX9_book_51 : decode cX9_book 51 = .ok (.invokevirtual 280, 3) := by decide +kernel
theorem dX9_book_54 : decode cX9_book 54 = .ok (.ireturn, 1) := by decide +kernel
theorem dX9_looked_0 : decode cX9_looked 0 = .ok (.iconst 0, 1) := by decide +kernel
theorem dX9_looked_1 : decode cX9_looked 1 = .ok (.istore_n 1, 1) := by decide +kernel
theorem dX9_looked_2 : decode cX9_looked 2 = .ok (.iload_n 1, 1) := by decide +kernel
theorem dX9_looked_3 : decode cX9_looked 3 = .ok (.aload_n 0, 1) := by decide +kernel
theorem dX9_looked_4 : decode cX9_looked 4 = .ok (.getfield 12, 3) := by decide +kernel
theorem dX9_looked_7 : decode cX9_looked 7 = .ok (.getfield 305, 3) := by decide +kernel
theorem dX9_looked_10 : decode cX9_looked 10 = .ok (.invokevirtual 295, 3) := by decide +kernel
theorem dX9_looked_13 : decode cX9_looked 13 = .ok (.if_icmp .ge 66, 3) := by decide +kernel
theorem dX9_looked_16 : decode cX9_looked 16 = .ok (.aload_n 0, 1) := by decide +kernel
theorem dX9_looked_17 : decode cX9_looked 17 = .ok (.getfield 12, 3) := by decide +kernel
theorem dX9_looked_20 : decode cX9_looked 20 = .ok (.getfield 305, 3) := by decide +kernel
theorem dX9_looked_23 : decode cX9_looked 23 = .ok (.iload_n 1, 1) := by decide +kernel
theorem dX9_looked_24 : decode cX9_looked 24 = .ok (.invokevirtual 296, 3) := by decide +kernel
theorem dX9_looked_27 : decode cX9_looked 27 = .ok (.istore_n 2, 1) := by decide +kernel
theorem dX9_looked_28 : decode cX9_looked 28 = .ok (.aload_n 0, 1) := by decide +kernel
theorem dX9_looked_29 : decode cX9_looked 29 = .ok (.getfield 12, 3) := by decide +kernel
theorem dX9_looked_32 : decode cX9_looked 32 = .ok (.iconst 0, 1) := by decide +kernel
theorem dX9_looked_33 : decode cX9_looked 33 = .ok (.invokevirtual 85, 3) := by decide +kernel
theorem dX9_looked_36 : decode cX9_looked 36 = .ok (.iload_n 2, 1) := by decide +kernel
theorem dX9_looked_37 : decode cX9_looked 37 = .ok (.bipush 10, 2) := by decide +kernel
theorem dX9_looked_39 : decode cX9_looked 39 = .ok (.idiv, 1) := by decide +kernel
theorem dX9_looked_40 : decode cX9_looked 40 = .ok (.iload_n 2, 1) := by decide +kernel
theorem dX9_looked_41 : decode cX9_looked 41 = .ok (.bipush 10, 2) := by decide +kernel
theorem dX9_looked_43 : decode cX9_looked 43 = .ok (.irem, 1) := by decide +kernel
theorem dX9_looked_44 : decode cX9_looked 44 = .ok (.invokevirtual 202, 3) := by decide +kernel
theorem dX9_looked_47 : decode cX9_looked 47 = .ok (.ifCond .eq 7, 3) := by decide +kernel
theorem dX9_looked_50 : decode cX9_looked 50 = .ok (.iconst 1, 1) := by decide +kernel
theorem dX9_looked_51 : decode cX9_looked 51 = .ok (.goto 4, 3) := by decide +kernel
theorem dX9_looked_54 : decode cX9_looked 54 = .ok (.iconst 0, 1) := by decide +kernel
theorem dX9_looked_55 : decode cX9_looked 55 = .ok (.istore_n 3, 1) := by decide +kernel
theorem dX9_looked_56 : decode cX9_looked 56 = .ok (.iload_n 3, 1) := by decide +kernel
theorem dX9_looked_57 : decode cX9_looked 57 = .ok (.aload_n 0, 1) := by decide +kernel
theorem dX9_looked_58 : decode cX9_looked 58 = .ok (.getfield 12, 3) := by decide +kernel
theorem dX9_looked_61 : decode cX9_looked 61 = .ok (.getfield 305, 3) := by decide +kernel
theorem dX9_looked_64 : decode cX9_looked 64 = .ok (.iload_n 1, 1) := by decide +kernel
theorem dX9_looked_65 : decode cX9_looked 65 = .ok (.invokevirtual 299, 3) := by decide +kernel
theorem dX9_looked_68 : decode cX9_looked 68 = .ok (.if_icmp .eq 5, 3) := by decide +kernel
theorem dX9_looked_71 : decode cX9_looked 71 = .ok (.iload_n 1, 1) := by decide +kernel
theorem dX9_looked_72 : decode cX9_looked 72 = .ok (.ireturn, 1) := by decide +kernel
theorem dX9_looked_73 : decode cX9_looked 73 = .ok (.iinc 1 1, 3) := by decide +kernel
theorem dX9_looked_76 : decode cX9_looked 76 = .ok (.goto (-74), 3) := by decide +kernel
theorem dX9_looked_79 : decode cX9_looked 79 = .ok (.bipush (-5), 2) := by decide +kernel
theorem dX9_looked_81 : decode cX9_looked 81 = .ok (.ireturn, 1) := by decide +kernel
theorem dX9_judge_0 : decode cX9_judge 0 = .ok (.iload_n 1, 1) := by decide +kernel
theorem dX9_judge_1 : decode cX9_judge 1 = .ok (.invokestatic 77, 3) := by decide +kernel
theorem dX9_judge_4 : decode cX9_judge 4 = .ok (.ifCond .ne 10, 3) := by decide +kernel
theorem dX9_judge_7 : decode cX9_judge 7 = .ok (.iload_n 2, 1) := by decide +kernel
theorem dX9_judge_8 : decode cX9_judge 8 = .ok (.invokestatic 308, 3) := by decide +kernel
theorem dX9_judge_11 : decode cX9_judge 11 = .ok (.ifCond .eq 5, 3) := by decide +kernel
theorem dX9_judge_14 : decode cX9_judge 14 = .ok (.iconst (-1), 1) := by decide +kernel
theorem dX9_judge_15 : decode cX9_judge 15 = .ok (.ireturn, 1) := by decide +kernel
theorem dX9_judge_16 : decode cX9_judge 16 = .ok (.aload_n 0, 1) := by decide +kernel
theorem dX9_judge_17 : decode cX9_judge 17 = .ok (.getfield 41, 3) := by decide +kernel
theorem dX9_judge_20 : decode cX9_judge 20 = .ok (.iload_n 2, 1) := by decide +kernel
theorem dX9_judge_21 : decode cX9_judge 21 = .ok (.aaload, 1) := by decide +kernel
theorem dX9_judge_22 : decode cX9_judge 22 = .ok (.astore 4, 2) := by decide +kernel
theorem dX9_judge_24 : decode cX9_judge 24 = .ok (.aload 4, 2) := by decide +kernel
theorem dX9_judge_26 : decode cX9_judge 26 = .ok (.invokevirtual 311, 3) := by decide +kernel
theorem dX9_judge_29 : decode cX9_judge 29 = .ok (.ifCond .ne 14, 3) := by decide +kernel
theorem dX9_judge_32 : decode cX9_judge 32 = .ok (.aload 4, 2) := by decide +kernel
theorem dX9_judge_34 : decode cX9_judge 34 = .ok (.invokevirtual 314, 3) := by decide +kernel
theorem dX9_judge_37 : decode cX9_judge 37 = .ok (.ifCond .eq 6, 3) := by decide +kernel
theorem dX9_judge_40 : decode cX9_judge 40 = .ok (.bipush (-12), 2) := by decide +kernel
end
section
theorem dX9_judge_42 : decode cX9_judge 42 = .ok (.ireturn, 1) := by decide +kernel
theorem dX9_judge_43 : decode cX9_judge 43 = .ok (.iconst 0, 1) := by decide +kernel
theorem dX9_judge_44 : decode cX9_judge 44 = .ok (.istore 5, 2) := by decide +kernel
theorem dX9_judge_46 : decode cX9_judge 46 = .ok (.iload 5, 2) := by decide +kernel
theorem dX9_judge_48 : decode cX9_judge 48 = .ok (.bipush 9, 2) := by decide +kernel
theorem dX9_judge_50 : decode cX9_judge 50 = .ok (.if_icmp .gt 63, 3) := by decide +kernel
theorem dX9_judge_53 : decode cX9_judge 53 = .ok (.iload_n 3, 1) := by decide +kernel
theorem dX9_judge_54 : decode cX9_judge 54 = .ok (.i2l, 1) := by decide +kernel
theorem dX9_judge_55 : decode cX9_judge 55 = .ok (.iload 5, 2) := by decide +kernel
theorem dX9_judge_57 : decode cX9_judge 57 = .ok (.i2l, 1) := by decide +kernel
theorem dX9_judge_58 : decode cX9_judge 58 = .ok (.ladd, 1) := by decide +kernel
theorem dX9_judge_59 : decode cX9_judge 59 = .ok (.lstore 6, 2) := by decide +kernel
theorem dX9_judge_61 : decode cX9_judge 61 = .ok (.aload 4, 2) := by decide +kernel
theorem dX9_judge_63 : decode cX9_judge 63 = .ok (.lload 6, 2) := by decide +kernel
theorem dX9_judge_65 : decode cX9_judge 65 = .ok (.lconst 1, 1) := by decide +kernel
theorem dX9_judge_66 : decode cX9_judge 66 = .ok (.invokevirtual 317, 3) := by decide +kernel
theorem dX9_judge_69 : decode cX9_judge 69 = .ok (.ifCond .ne 9, 3) := by decide +kernel
theorem dX9_judge_72 : decode cX9_judge 72 = .ok (.bipush 100, 2) := by decide +kernel
theorem dX9_judge_74 : decode cX9_judge 74 = .ok (.iload 5, 2) := by decide +kernel
theorem dX9_judge_76 : decode cX9_judge 76 = .ok (.iadd, 1) := by decide +kernel
theorem dX9_judge_77 : decode cX9_judge 77 = .ok (.ireturn, 1) := by decide +kernel
theorem dX9_judge_78 : decode cX9_judge 78 = .ok (.aload 4, 2) := by decide +kernel
theorem dX9_judge_80 : decode cX9_judge 80 = .ok (.lload 6, 2) := by decide +kernel
theorem dX9_judge_82 : decode cX9_judge 82 = .ok (.l2i, 1) := by decide +kernel
theorem dX9_judge_83 : decode cX9_judge 83 = .ok (.invokevirtual 321, 3) := by decide +kernel
theorem dX9_judge_86 : decode cX9_judge 86 = .ok (.aload_n 0, 1) := by decide +kernel
theorem dX9_judge_87 : decode cX9_judge 87 = .ok (.getfield 12, 3) := by decide +kernel
theorem dX9_judge_90 : decode cX9_judge 90 = .ok (.iload_n 1, 1) := by decide +kernel
theorem dX9_judge_91 : decode cX9_judge 91 = .ok (.invokevirtual 85, 3) := by decide +kernel
theorem dX9_judge_94 : decode cX9_judge 94 = .ok (.iload 5, 2) := by decide +kernel
theorem dX9_judge_96 : decode cX9_judge 96 = .ok (.invokevirtual 252, 3) := by decide +kernel
theorem dX9_judge_99 : decode cX9_judge 99 = .ok (.i2l, 1) := by decide +kernel
theorem dX9_judge_100 : decode cX9_judge 100 = .ok (.lcmp, 1) := by decide +kernel
theorem dX9_judge_101 : decode cX9_judge 101 = .ok (.ifCond .eq 6, 3) := by decide +kernel
theorem dX9_judge_104 : decode cX9_judge 104 = .ok (.iload 5, 2) := by decide +kernel
theorem dX9_judge_106 : decode cX9_judge 106 = .ok (.ireturn, 1) := by decide +kernel
theorem dX9_judge_107 : decode cX9_judge 107 = .ok (.iinc 5 1, 3) := by decide +kernel
theorem dX9_judge_110 : decode cX9_judge 110 = .ok (.goto (-64), 3) := by decide +kernel
theorem dX9_judge_113 : decode cX9_judge 113 = .ok (.bipush (-5), 2) := by decide +kernel
theorem dX9_judge_115 : decode cX9_judge 115 = .ok (.ireturn, 1) := by decide +kernel
theorem dX9_image_0 : decode cX9_image 0 = .ok (.aload_n 0, 1) := by decide +kernel
theorem dX9_image_1 : decode cX9_image 1 = .ok (.getfield 18, 3) := by decide +kernel
theorem dX9_image_4 : decode cX9_image 4 = .ok (.aload_n 0, 1) := by decide +kernel
theorem dX9_image_5 : decode cX9_image 5 = .ok (.getfield 12, 3) := by decide +kernel
theorem dX9_image_8 : decode cX9_image 8 = .ok (.invokevirtual 325, 3) := by decide +kernel
theorem dX9_image_11 : decode cX9_image 11 = .ok (.aload_n 0, 1) := by decide +kernel
theorem dX9_image_12 : decode cX9_image 12 = .ok (.iconst 1, 1) := by decide +kernel
theorem dX9_image_13 : decode cX9_image 13 = .ok (.putfield 21, 3) := by decide +kernel
theorem dX9_image_16 : decode cX9_image 16 = .ok (.aload_n 0, 1) := by decide +kernel
theorem dX9_image_17 : decode cX9_image 17 = .ok (.getfield 12, 3) := by decide +kernel
theorem dX9_image_20 : decode cX9_image 20 = .ok (.invokevirtual 327, 3) := by decide +kernel
theorem dX9_image_23 : decode cX9_image 23 = .ok (.ireturn, 1) := by decide +kernel
theorem dX9_undo_0 : decode cX9_undo 0 = .ok (.aload_n 0, 1) := by decide +kernel
theorem dX9_undo_1 : decode cX9_undo 1 = .ok (.getfield 21, 3) := by decide +kernel
theorem dX9_undo_4 : decode cX9_undo 4 = .ok (.ifCond .ne 6, 3) := by decide +kernel
theorem dX9_undo_7 : decode cX9_undo 7 = .ok (.bipush (-3), 2) := by decide +kernel
theorem dX9_undo_9 : decode cX9_undo 9 = .ok (.ireturn, 1) := by decide +kernel
theorem dX9_undo_10 : decode cX9_undo 10 = .ok (.aload_n 0, 1) := by decide +kernel
theorem dX9_undo_11 : decode cX9_undo 11 = .ok (.getfield 12, 3) := by decide +kernel
theorem dX9_undo_14 : decode cX9_undo 14 = .ok (.aload_n 0, 1) := by decide +kernel
theorem dX9_undo_15 : decode cX9_undo 15 = .ok (.getfield 18, 3) := by decide +kernel
theorem dX9_undo_18 : decode cX9_undo 18 = .ok (.invokevirtual 325, 3) := by decide +kernel
theorem dX9_undo_21 : decode cX9_undo 21 = .ok (.aload_n 0, 1) := by decide +kernel
theorem dX9_undo_22 : decode cX9_undo 22 = .ok (.getfield 28, 3) := by decide +kernel
theorem dX9_undo_25 : decode cX9_undo 25 = .ok (.invokevirtual 330, 3) := by decide +kernel
theorem dX9_undo_28 : decode cX9_undo 28 = .ok (.aload_n 0, 1) := by decide +kernel
theorem dX9_undo_29 : decode cX9_undo 29 = .ok (.getfield 12, 3) := by decide +kernel
theorem dX9_undo_32 : decode cX9_undo 32 = .ok (.invokevirtual 327, 3) := by decide +kernel
theorem dX9_undo_35 : decode cX9_undo 35 = .ok (.ireturn, 1) := by decide +kernel
theorem dX9_count_0 : decode cX9_count 0 = .ok (.iload_n 1, 1) := by decide +kernel
theorem dX9_count_1 : decode cX9_count 1 = .ok (.tableswitch 84 0 4 #[35, 46, 57, 68, 76], 35) := by decide +kernel
theorem dX9_count_36 : decode cX9_count 36 = .ok (.aload_n 0, 1) := by decide +kernel
theorem dX9_count_37 : decode cX9_count 37 = .ok (.getfield 12, 3) := by decide +kernel
theorem dX9_count_40 : decode cX9_count 40 = .ok (.getfield 273, 3) := by decide +kernel
theorem dX9_count_43 : decode cX9_count 43 = .ok (.invokevirtual 295, 3) := by decide +kernel
theorem dX9_count_46 : decode cX9_count 46 = .ok (.ireturn, 1) := by decide +kernel
theorem dX9_count_47 : decode cX9_count 47 = .ok (.aload_n 0, 1) := by decide +kernel
theorem dX9_count_48 : decode cX9_count 48 = .ok (.getfield 12, 3) := by decide +kernel
theorem dX9_count_51 : decode cX9_count 51 = .ok (.getfield 289, 3) := by decide +kernel
theorem dX9_count_54 : decode cX9_count 54 = .ok (.invokevirtual 295, 3) := by decide +kernel
theorem dX9_count_57 : decode cX9_count 57 = .ok (.ireturn, 1) := by decide +kernel
theorem dX9_count_58 : decode cX9_count 58 = .ok (.aload_n 0, 1) := by decide +kernel
theorem dX9_count_59 : decode cX9_count 59 = .ok (.getfield 12, 3) := by decide +kernel
theorem dX9_count_62 : decode cX9_count 62 = .ok (.getfield 305, 3) := by decide +kernel
theorem dX9_count_65 : decode cX9_count 65 = .ok (.invokevirtual 295, 3) := by decide +kernel
theorem dX9_count_68 : decode cX9_count 68 = .ok (.ireturn, 1) := by decide +kernel
theorem dX9_count_69 : decode cX9_count 69 = .ok (.aload_n 0, 1) := by decide +kernel
theorem dX9_count_70 : decode cX9_count 70 = .ok (.getfield 35, 3) := by decide +kernel
theorem dX9_count_73 : decode cX9_count 73 = .ok (.invokevirtual 150, 3) := by decide +kernel
theorem dX9_count_76 : decode cX9_count 76 = .ok (.ireturn, 1) := by decide +kernel
theorem dX9_count_77 : decode cX9_count 77 = .ok (.aload_n 0, 1) := by decide +kernel
theorem dX9_count_78 : decode cX9_count 78 = .ok (.getfield 28, 3) := by decide +kernel
theorem dX9_count_81 : decode cX9_count 81 = .ok (.invokevirtual 139, 3) := by decide +kernel
theorem dX9_count_84 : decode cX9_count 84 = .ok (.ireturn, 1) := by decide +kernel
theorem dX9_count_85 : decode cX9_count 85 = .ok (.bipush (-2), 2) := by decide +kernel
theorem dX9_count_87 : decode cX9_count 87 = .ok (.ireturn, 1) := by decide +kernel
theorem dX9_tape_0 : decode cX9_tape 0 = .ok (.iload_n 1, 1) := by decide +kernel
theorem dX9_tape_1 : decode cX9_tape 1 = .ok (.invokestatic 308, 3) := by decide +kernel
theorem dX9_tape_4 : decode cX9_tape 4 = .ok (.ifCond .eq 5, 3) := by decide +kernel
theorem dX9_tape_7 : decode cX9_tape 7 = .ok (.iconst (-1), 1) := by decide +kernel
theorem dX9_tape_8 : decode cX9_tape 8 = .ok (.ireturn, 1) := by decide +kernel
theorem dX9_tape_9 : decode cX9_tape 9 = .ok (.iload_n 2, 1) := by decide +kernel
theorem dX9_tape_10 : decode cX9_tape 10 = .ok (.iconst (-1), 1) := by decide +kernel
theorem dX9_tape_11 : decode cX9_tape 11 = .ok (.if_icmp .ne 16, 3) := by decide +kernel
theorem dX9_tape_14 : decode cX9_tape 14 = .ok (.aload_n 0, 1) := by decide +kernel
theorem dX9_tape_15 : decode cX9_tape 15 = .ok (.getfield 41, 3) := by decide +kernel
theorem dX9_tape_18 : decode cX9_tape 18 = .ok (.iload_n 1, 1) := by decide +kernel
theorem dX9_tape_19 : decode cX9_tape 19 = .ok (.aaload, 1) := by decide +kernel
theorem dX9_tape_20 : decode cX9_tape 20 = .ok (.iconst (-1), 1) := by decide +kernel
theorem dX9_tape_21 : decode cX9_tape 21 = .ok (.iconst 0, 1) := by decide +kernel
theorem dX9_tape_22 : decode cX9_tape 22 = .ok (.invokevirtual 333, 3) := by decide +kernel
theorem dX9_tape_25 : decode cX9_tape 25 = .ok (.iconst 1, 1) := by decide +kernel
theorem dX9_tape_26 : decode cX9_tape 26 = .ok (.ireturn, 1) := by decide +kernel
theorem dX9_tape_27 : decode cX9_tape 27 = .ok (.iload_n 2, 1) := by decide +kernel
theorem dX9_tape_28 : decode cX9_tape 28 = .ok (.ifCond .lt 14, 3) := by decide +kernel
theorem dX9_tape_31 : decode cX9_tape 31 = .ok (.iload_n 2, 1) := by decide +kernel
theorem dX9_tape_32 : decode cX9_tape 32 = .ok (.iconst 4, 1) := by decide +kernel
theorem dX9_tape_33 : decode cX9_tape 33 = .ok (.if_icmp .gt 9, 3) := by decide +kernel
theorem dX9_tape_36 : decode cX9_tape 36 = .ok (.iload_n 3, 1) := by decide +kernel
theorem dX9_tape_37 : decode cX9_tape 37 = .ok (.bipush 60, 2) := by decide +kernel
theorem dX9_tape_39 : decode cX9_tape 39 = .ok (.if_icmp .le 6, 3) := by decide +kernel
theorem dX9_tape_42 : decode cX9_tape 42 = .ok (.bipush (-2), 2) := by decide +kernel
theorem dX9_tape_44 : decode cX9_tape 44 = .ok (.ireturn, 1) := by decide +kernel
theorem dX9_tape_45 : decode cX9_tape 45 = .ok (.iload_n 3, 1) := by decide +kernel
theorem dX9_tape_46 : decode cX9_tape 46 = .ok (.ifCond .ge 6, 3) := by decide +kernel
theorem dX9_tape_49 : decode cX9_tape 49 = .ok (.bipush (-14), 2) := by decide +kernel
theorem dX9_tape_51 : decode cX9_tape 51 = .ok (.ireturn, 1) := by decide +kernel
theorem dX9_tape_52 : decode cX9_tape 52 = .ok (.aload_n 0, 1) := by decide +kernel
theorem dX9_tape_53 : decode cX9_tape 53 = .ok (.getfield 41, 3) := by decide +kernel
theorem dX9_tape_56 : decode cX9_tape 56 = .ok (.iload_n 1, 1) := by decide +kernel
theorem dX9_tape_57 : decode cX9_tape 57 = .ok (.aaload, 1) := by decide +kernel
theorem dX9_tape_58 : decode cX9_tape 58 = .ok (.iload_n 2, 1) := by decide +kernel
theorem dX9_tape_59 : decode cX9_tape 59 = .ok (.iload_n 3, 1) := by decide +kernel
theorem dX9_tape_60 : decode cX9_tape 60 = .ok (.invokevirtual 333, 3) := by decide +kernel
theorem dX9_tape_63 : decode cX9_tape 63 = .ok (.iconst 1, 1) := by decide +kernel
theorem dX9_tape_64 : decode cX9_tape 64 = .ok (.ireturn, 1) := by decide +kernel
theorem dX9_item_0 : decode cX9_item 0 = .ok (.iload_n 1, 1) := by decide +kernel
theorem dX9_item_1 : decode cX9_item 1 = .ok (.invokestatic 308, 3) := by decide +kernel
theorem dX9_item_4 : decode cX9_item 4 = .ok (.ifCond .eq 5, 3) := by decide +kernel
theorem dX9_item_7 : decode cX9_item 7 = .ok (.iconst (-1), 1) := by decide +kernel
theorem dX9_item_8 : decode cX9_item 8 = .ok (.ireturn, 1) := by decide +kernel
theorem dX9_item_9 : decode cX9_item 9 = .ok (.aload_n 0, 1) := by decide +kernel
theorem dX9_item_10 : decode cX9_item 10 = .ok (.getfield 41, 3) := by decide +kernel
theorem dX9_item_13 : decode cX9_item 13 = .ok (.iload_n 1, 1) := by decide +kernel
theorem dX9_item_14 : decode cX9_item 14 = .ok (.aaload, 1) := by decide +kernel
theorem dX9_item_15 : decode cX9_item 15 = .ok (.astore 5, 2) := by decide +kernel
theorem dX9_item_17 : decode cX9_item 17 = .ok (.aload 5, 2) := by decide +kernel
theorem dX9_item_19 : decode cX9_item 19 = .ok (.invokevirtual 311, 3) := by decide +kernel
theorem dX9_item_22 : decode cX9_item 22 = .ok (.ifCond .eq 6, 3) := by decide +kernel
theorem dX9_item_25 : decode cX9_item 25 = .ok (.bipush (-11), 2) := by decide +kernel
theorem dX9_item_27 : decode cX9_item 27 = .ok (.ireturn, 1) := by decide +kernel
theorem dX9_item_28 : decode cX9_item 28 = .ok (.aload 5, 2) := by decide +kernel
theorem dX9_item_30 : decode cX9_item 30 = .ok (.iload_n 2, 1) := by decide +kernel
theorem dX9_item_31 : decode cX9_item 31 = .ok (.i2l, 1) := by decide +kernel
theorem dX9_item_32 : decode cX9_item 32 = .ok (.lconst 1, 1) := by decide +kernel
theorem dX9_item_33 : decode cX9_item 33 = .ok (.invokevirtual 317, 3) := by decide +kernel
theorem dX9_item_36 : decode cX9_item 36 = .ok (.ifCond .ne 6, 3) := by decide +kernel
theorem dX9_item_39 : decode cX9_item 39 = .ok (.bipush (-13), 2) := by decide +kernel
theorem dX9_item_41 : decode cX9_item 41 = .ok (.ireturn, 1) := by decide +kernel
theorem dX9_item_42 : decode cX9_item 42 = .ok (.aload 5, 2) := by decide +kernel
theorem dX9_item_44 : decode cX9_item 44 = .ok (.iload_n 2, 1) := by decide +kernel
theorem dX9_item_45 : decode cX9_item 45 = .ok (.lload_n 3, 1) := by decide +kernel
theorem dX9_item_46 : decode cX9_item 46 = .ok (.invokevirtual 336, 3) := by decide +kernel
theorem dX9_item_49 : decode cX9_item 49 = .ok (.iconst 1, 1) := by decide +kernel
theorem dX9_item_50 : decode cX9_item 50 = .ok (.ireturn, 1) := by decide +kernel
theorem dX9_peek_0 : decode cX9_peek 0 = .ok (.iload_n 1, 1) := by decide +kernel
theorem dX9_peek_1 : decode cX9_peek 1 = .ok (.invokestatic 308, 3) := by decide +kernel
theorem dX9_peek_4 : decode cX9_peek 4 = .ok (.ifCond .ne 18, 3) := by decide +kernel
theorem dX9_peek_7 : decode cX9_peek 7 = .ok (.aload_n 0, 1) := by decide +kernel
theorem dX9_peek_8 : decode cX9_peek 8 = .ok (.getfield 41, 3) := by decide +kernel
theorem dX9_peek_11 : decode cX9_peek 11 = .ok (.iload_n 1, 1) := by decide +kernel
theorem dX9_peek_12 : decode cX9_peek 12 = .ok (.aaload, 1) := by decide +kernel
theorem dX9_peek_13 : decode cX9_peek 13 = .ok (.iload_n 2, 1) := by decide +kernel
theorem dX9_peek_14 : decode cX9_peek 14 = .ok (.i2l, 1) := by decide +kernel
theorem dX9_peek_15 : decode cX9_peek 15 = .ok (.lconst 1, 1) := by decide +kernel
theorem dX9_peek_16 : decode cX9_peek 16 = .ok (.invokevirtual 317, 3) := by decide +kernel
theorem dX9_peek_19 : decode cX9_peek 19 = .ok (.ifCond .ne 7, 3) := by decide +kernel
theorem dX9_peek_22 : decode cX9_peek 22 = .ok (.ldc2_w 230, 3) := by decide +kernel
theorem dX9_peek_25 : decode cX9_peek 25 = .ok (.lreturn, 1) := by decide +kernel
theorem dX9_peek_26 : decode cX9_peek 26 = .ok (.aload_n 0, 1) := by decide +kernel
theorem dX9_peek_27 : decode cX9_peek 27 = .ok (.getfield 41, 3) := by decide +kernel
theorem dX9_peek_30 : decode cX9_peek 30 = .ok (.iload_n 1, 1) := by decide +kernel
theorem dX9_peek_31 : decode cX9_peek 31 = .ok (.aaload, 1) := by decide +kernel
theorem dX9_peek_32 : decode cX9_peek 32 = .ok (.iload_n 2, 1) := by decide +kernel
theorem dX9_peek_33 : decode cX9_peek 33 = .ok (.invokevirtual 321, 3) := by decide +kernel
theorem dX9_peek_36 : decode cX9_peek 36 = .ok (.lreturn, 1) := by decide +kernel
theorem dX9_shift_0 : decode cX9_shift 0 = .ok (.iload_n 1, 1) := by decide +kernel
theorem dX9_shift_1 : decode cX9_shift 1 = .ok (.invokestatic 308, 3) := by decide +kernel
theorem dX9_shift_4 : decode cX9_shift 4 = .ok (.ifCond .ne 10, 3) := by decide +kernel
theorem dX9_shift_7 : decode cX9_shift 7 = .ok (.iload_n 3, 1) := by decide +kernel
theorem dX9_shift_8 : decode cX9_shift 8 = .ok (.invokestatic 308, 3) := by decide +kernel
theorem dX9_shift_11 : decode cX9_shift 11 = .ok (.ifCond .eq 5, 3) := by decide +kernel
theorem dX9_shift_14 : decode cX9_shift 14 = .ok (.iconst (-1), 1) := by decide +kernel
theorem dX9_shift_15 : decode cX9_shift 15 = .ok (.ireturn, 1) := by decide +kernel
theorem dX9_shift_16 : decode cX9_shift 16 = .ok (.aload_n 0, 1) := by decide +kernel
theorem dX9_shift_17 : decode cX9_shift 17 = .ok (.getfield 41, 3) := by decide +kernel
theorem dX9_shift_20 : decode cX9_shift 20 = .ok (.iload_n 1, 1) := by decide +kernel
theorem dX9_shift_21 : decode cX9_shift 21 = .ok (.aaload, 1) := by decide +kernel
theorem dX9_shift_22 : decode cX9_shift 22 = .ok (.astore 6, 2) := by decide +kernel
theorem dX9_shift_24 : decode cX9_shift 24 = .ok (.aload_n 0, 1) := by decide +kernel
theorem dX9_shift_25 : decode cX9_shift 25 = .ok (.getfield 41, 3) := by decide +kernel
theorem dX9_shift_28 : decode cX9_shift 28 = .ok (.iload_n 3, 1) := by decide +kernel
theorem dX9_shift_29 : decode cX9_shift 29 = .ok (.aaload, 1) := by decide +kernel
theorem dX9_shift_30 : decode cX9_shift 30 = .ok (.astore 7, 2) := by decide +kernel
theorem dX9_shift_32 : decode cX9_shift 32 = .ok (.aload 6, 2) := by decide +kernel
theorem dX9_shift_34 : decode cX9_shift 34 = .ok (.invokevirtual 311, 3) := by decide +kernel
theorem dX9_shift_37 : decode cX9_shift 37 = .ok (.ifCond .ne 11, 3) := by decide +kernel
theorem dX9_shift_40 : decode cX9_shift 40 = .ok (.aload 7, 2) := by decide +kernel
theorem dX9_shift_42 : decode cX9_shift 42 = .ok (.invokevirtual 311, 3) := by decide +kernel
theorem dX9_shift_45 : decode cX9_shift 45 = .ok (.ifCond .eq 6, 3) := by decide +kernel
theorem dX9_shift_48 : decode cX9_shift 48 = .ok (.bipush (-11), 2) := by decide +kernel
theorem dX9_shift_50 : decode cX9_shift 50 = .ok (.ireturn, 1) := by decide +kernel
theorem dX9_shift_51 : decode cX9_shift 51 = .ok (.aload 6, 2) := by decide +kernel
theorem dX9_shift_53 : decode cX9_shift 53 = .ok (.invokevirtual 314, 3) := by decide +kernel
theorem dX9_shift_56 : decode cX9_shift 56 = .ok (.aload 7, 2) := by decide +kernel
theorem dX9_shift_58 : decode cX9_shift 58 = .ok (.invokevirtual 314, 3) := by decide +kernel
theorem dX9_shift_61 : decode cX9_shift 61 = .ok (.if_icmp .eq 6, 3) := by decide +kernel
theorem dX9_shift_64 : decode cX9_shift 64 = .ok (.bipush (-12), 2) := by decide +kernel
theorem dX9_shift_66 : decode cX9_shift 66 = .ok (.ireturn, 1) := by decide +kernel
theorem dX9_shift_67 : decode cX9_shift 67 = .ok (.aload 6, 2) := by decide +kernel
theorem dX9_shift_69 : decode cX9_shift 69 = .ok (.iload_n 2, 1) := by decide +kernel
theorem dX9_shift_70 : decode cX9_shift 70 = .ok (.i2l, 1) := by decide +kernel
theorem dX9_shift_71 : decode cX9_shift 71 = .ok (.iload 5, 2) := by decide +kernel
theorem dX9_shift_73 : decode cX9_shift 73 = .ok (.i2l, 1) := by decide +kernel
theorem dX9_shift_74 : decode cX9_shift 74 = .ok (.invokevirtual 317, 3) := by decide +kernel
theorem dX9_shift_77 : decode cX9_shift 77 = .ok (.ifCond .eq 17, 3) := by decide +kernel
theorem dX9_shift_80 : decode cX9_shift 80 = .ok (.aload 7, 2) := by decide +kernel
theorem dX9_shift_82 : decode cX9_shift 82 = .ok (.iload 4, 2) := by decide +kernel
theorem dX9_shift_84 : decode cX9_shift 84 = .ok (.i2l, 1) := by decide +kernel
theorem dX9_shift_85 : decode cX9_shift 85 = .ok (.iload 5, 2) := by decide +kernel
theorem dX9_shift_87 : decode cX9_shift 87 = .ok (.i2l, 1) := by decide +kernel
theorem dX9_shift_88 : decode cX9_shift 88 = .ok (.invokevirtual 317, 3) := by decide +kernel
theorem dX9_shift_91 : decode cX9_shift 91 = .ok (.ifCond .ne 6, 3) := by decide +kernel
theorem dX9_shift_94 : decode cX9_shift 94 = .ok (.bipush (-13), 2) := by decide +kernel
theorem dX9_shift_96 : decode cX9_shift 96 = .ok (.ireturn, 1) := by decide +kernel
theorem dX9_shift_97 : decode cX9_shift 97 = .ok (.aload 7, 2) := by decide +kernel
theorem dX9_shift_99 : decode cX9_shift 99 = .ok (.iload 4, 2) := by decide +kernel
theorem dX9_shift_101 : decode cX9_shift 101 = .ok (.aload 6, 2) := by decide +kernel
theorem dX9_shift_103 : decode cX9_shift 103 = .ok (.iload_n 2, 1) := by decide +kernel
theorem dX9_shift_104 : decode cX9_shift 104 = .ok (.iload 5, 2) := by decide +kernel
theorem dX9_shift_106 : decode cX9_shift 106 = .ok (.invokevirtual 340, 3) := by decide +kernel
theorem dX9_shift_109 : decode cX9_shift 109 = .ok (.iload 5, 2) := by decide +kernel
theorem dX9_shift_111 : decode cX9_shift 111 = .ok (.ireturn, 1) := by decide +kernel
theorem dX9_noIdeal_0 : decode cX9_noIdeal 0 = .ok (.iload_n 0, 1) := by decide +kernel
theorem dX9_noIdeal_1 : decode cX9_noIdeal 1 = .ok (.ifCond .lt 8, 3) := by decide +kernel
theorem dX9_noIdeal_4 : decode cX9_noIdeal 4 = .ok (.iload_n 0, 1) := by decide +kernel
theorem dX9_noIdeal_5 : decode cX9_noIdeal 5 = .ok (.iconst 1, 1) := by decide +kernel
theorem dX9_noIdeal_6 : decode cX9_noIdeal 6 = .ok (.if_icmp .le 7, 3) := by decide +kernel
theorem dX9_noIdeal_9 : decode cX9_noIdeal 9 = .ok (.iconst 1, 1) := by decide +kernel
theorem dX9_noIdeal_10 : decode cX9_noIdeal 10 = .ok (.goto 4, 3) := by decide +kernel
theorem dX9_noIdeal_13 : decode cX9_noIdeal 13 = .ok (.iconst 0, 1) := by decide +kernel
theorem dX9_noIdeal_14 : decode cX9_noIdeal 14 = .ok (.ireturn, 1) := by decide +kernel
theorem dX9_noGenerator_0 : decode cX9_noGenerator 0 = .ok (.iload_n 1, 1) := by decide +kernel
theorem dX9_noGenerator_1 : decode cX9_noGenerator 1 = .ok (.invokestatic 77, 3) := by decide +kernel
theorem dX9_noGenerator_4 : decode cX9_noGenerator 4 = .ok (.ifCond .ne 22, 3) := by decide +kernel
theorem dX9_noGenerator_7 : decode cX9_noGenerator 7 = .ok (.iload_n 2, 1) := by decide +kernel
theorem dX9_noGenerator_8 : decode cX9_noGenerator 8 = .ok (.ifCond .lt 18, 3) := by decide +kernel
theorem dX9_noGenerator_11 : decode cX9_noGenerator 11 = .ok (.iload_n 2, 1) := by decide +kernel
theorem dX9_noGenerator_12 : decode cX9_noGenerator 12 = .ok (.aload_n 0, 1) := by decide +kernel
theorem dX9_noGenerator_13 : decode cX9_noGenerator 13 = .ok (.getfield 12, 3) := by decide +kernel
theorem dX9_noGenerator_16 : decode cX9_noGenerator 16 = .ok (.iload_n 1, 1) := by decide +kernel
theorem dX9_noGenerator_17 : decode cX9_noGenerator 17 = .ok (.invokevirtual 85, 3) := by decide +kernel
theorem dX9_noGenerator_20 : decode cX9_noGenerator 20 = .ok (.invokevirtual 93, 3) := by decide +kernel
theorem dX9_noGenerator_23 : decode cX9_noGenerator 23 = .ok (.if_icmp .lt 7, 3) := by decide +kernel
theorem dX9_noGenerator_26 : decode cX9_noGenerator 26 = .ok (.iconst 1, 1) := by decide +kernel
theorem dX9_noGenerator_27 : decode cX9_noGenerator 27 = .ok (.goto 4, 3) := by decide +kernel
theorem dX9_noGenerator_30 : decode cX9_noGenerator 30 = .ok (.iconst 0, 1) := by decide +kernel
theorem dX9_noGenerator_31 : decode cX9_noGenerator 31 = .ok (.ireturn, 1) := by decide +kernel
theorem dX9_badTerm_0 : decode cX9_badTerm 0 = .ok (.iload_n 0, 1) := by decide +kernel
theorem dX9_badTerm_1 : decode cX9_badTerm 1 = .ok (.ifCond .lt 19, 3) := by decide +kernel
theorem dX9_badTerm_4 : decode cX9_badTerm 4 = .ok (.iload_n 0, 1) := by decide +kernel
theorem dX9_badTerm_5 : decode cX9_badTerm 5 = .ok (.bipush 9, 2) := by decide +kernel
theorem dX9_badTerm_7 : decode cX9_badTerm 7 = .ok (.if_icmp .gt 13, 3) := by decide +kernel
theorem dX9_badTerm_10 : decode cX9_badTerm 10 = .ok (.iload_n 1, 1) := by decide +kernel
theorem dX9_badTerm_11 : decode cX9_badTerm 11 = .ok (.ifCond .lt 9, 3) := by decide +kernel
theorem dX9_badTerm_14 : decode cX9_badTerm 14 = .ok (.iload_n 1, 1) := by decide +kernel
theorem dX9_badTerm_15 : decode cX9_badTerm 15 = .ok (.bipush 9, 2) := by decide +kernel
theorem dX9_badTerm_17 : decode cX9_badTerm 17 = .ok (.if_icmp .le 7, 3) := by decide +kernel
theorem dX9_badTerm_20 : decode cX9_badTerm 20 = .ok (.iconst 1, 1) := by decide +kernel
theorem dX9_badTerm_21 : decode cX9_badTerm 21 = .ok (.goto 4, 3) := by decide +kernel
theorem dX9_badTerm_24 : decode cX9_badTerm 24 = .ok (.iconst 0, 1) := by decide +kernel
theorem dX9_badTerm_25 : decode cX9_badTerm 25 = .ok (.ireturn, 1) := by decide +kernel
theorem dX9_badFraction_0 : decode cX9_badFraction 0 = .ok (.iload_n 0, 1) := by decide +kernel
theorem dX9_badFraction_1 : decode cX9_badFraction 1 = .ok (.iconst 1, 1) := by decide +kernel
theorem dX9_badFraction_2 : decode cX9_badFraction 2 = .ok (.if_icmp .lt 20, 3) := by decide +kernel
theorem dX9_badFraction_5 : decode cX9_badFraction 5 = .ok (.iload_n 0, 1) := by decide +kernel
theorem dX9_badFraction_6 : decode cX9_badFraction 6 = .ok (.bipush 99, 2) := by decide +kernel
theorem dX9_badFraction_8 : decode cX9_badFraction 8 = .ok (.if_icmp .gt 14, 3) := by decide +kernel
theorem dX9_badFraction_11 : decode cX9_badFraction 11 = .ok (.iload_n 1, 1) := by decide +kernel
theorem dX9_badFraction_12 : decode cX9_badFraction 12 = .ok (.iconst 1, 1) := by decide +kernel
theorem dX9_badFraction_13 : decode cX9_badFraction 13 = .ok (.if_icmp .lt 9, 3) := by decide +kernel
theorem dX9_badFraction_16 : decode cX9_badFraction 16 = .ok (.iload_n 1, 1) := by decide +kernel
theorem dX9_badFraction_17 : decode cX9_badFraction 17 = .ok (.bipush 99, 2) := by decide +kernel
theorem dX9_badFraction_19 : decode cX9_badFraction 19 = .ok (.if_icmp .le 7, 3) := by decide +kernel
theorem dX9_badFraction_22 : decode cX9_badFraction 22 = .ok (.iconst 1, 1) := by decide +kernel
theorem dX9_badFraction_23 : decode cX9_badFraction 23 = .ok (.goto 4, 3) := by decide +kernel
theorem dX9_badFraction_26 : decode cX9_badFraction 26 = .ok (.iconst 0, 1) := by decide +kernel
theorem dX9_badFraction_27 : decode cX9_badFraction 27 = .ok (.ireturn, 1) := by decide +kernel
theorem dX9_badPart_0 : decode cX9_badPart 0 = .ok (.iload_n 0, 1) := by decide +kernel
theorem dX9_badPart_1 : decode cX9_badPart 1 = .ok (.ifCond .lt 8, 3) := by decide +kernel
theorem dX9_badPart_4 : decode cX9_badPart 4 = .ok (.iload_n 0, 1) := by decide +kernel
theorem dX9_badPart_5 : decode cX9_badPart 5 = .ok (.iconst 1, 1) := by decide +kernel
theorem dX9_badPart_6 : decode cX9_badPart 6 = .ok (.if_icmp .le 7, 3) := by decide +kernel
theorem dX9_badPart_9 : decode cX9_badPart 9 = .ok (.iconst 1, 1) := by decide +kernel
theorem dX9_badPart_10 : decode cX9_badPart 10 = .ok (.goto 4, 3) := by decide +kernel
theorem dX9_badPart_13 : decode cX9_badPart 13 = .ok (.iconst 0, 1) := by decide +kernel
theorem dX9_badPart_14 : decode cX9_badPart 14 = .ok (.ireturn, 1) := by decide +kernel
theorem dX9_noHeightCode_0 : decode cX9_noHeightCode 0 = .ok (.iload_n 0, 1) := by decide +kernel
theorem dX9_noHeightCode_1 : decode cX9_noHeightCode 1 = .ok (.ifCond .lt 12, 3) := by decide +kernel
theorem dX9_noHeightCode_4 : decode cX9_noHeightCode 4 = .ok (.iload_n 0, 1) := by decide +kernel
theorem dX9_noHeightCode_5 : decode cX9_noHeightCode 5 = .ok (.iconst 2, 1) := by decide +kernel
theorem dX9_noHeightCode_6 : decode cX9_noHeightCode 6 = .ok (.if_icmp .gt 7, 3) := by decide +kernel
theorem dX9_noHeightCode_9 : decode cX9_noHeightCode 9 = .ok (.iconst 1, 1) := by decide +kernel
theorem dX9_noHeightCode_10 : decode cX9_noHeightCode 10 = .ok (.goto 4, 3) := by decide +kernel
theorem dX9_noHeightCode_13 : decode cX9_noHeightCode 13 = .ok (.iconst 0, 1) := by decide +kernel
theorem dX9_noHeightCode_14 : decode cX9_noHeightCode 14 = .ok (.istore_n 1, 1) := by decide +kernel
theorem dX9_noHeightCode_15 : decode cX9_noHeightCode 15 = .ok (.iload_n 1, 1) := by decide +kernel
theorem dX9_noHeightCode_16 : decode cX9_noHeightCode 16 = .ok (.ifCond .ne 19, 3) := by decide +kernel
theorem dX9_noHeightCode_19 : decode cX9_noHeightCode 19 = .ok (.iload_n 0, 1) := by decide +kernel
theorem dX9_noHeightCode_20 : decode cX9_noHeightCode 20 = .ok (.bipush 10, 2) := by decide +kernel
theorem dX9_noHeightCode_22 : decode cX9_noHeightCode 22 = .ok (.if_icmp .lt 9, 3) := by decide +kernel
theorem dX9_noHeightCode_25 : decode cX9_noHeightCode 25 = .ok (.iload_n 0, 1) := by decide +kernel
theorem dX9_noHeightCode_26 : decode cX9_noHeightCode 26 = .ok (.bipush 16, 2) := by decide +kernel
theorem dX9_noHeightCode_28 : decode cX9_noHeightCode 28 = .ok (.if_icmp .le 7, 3) := by decide +kernel
theorem dX9_noHeightCode_31 : decode cX9_noHeightCode 31 = .ok (.iconst 1, 1) := by decide +kernel
theorem dX9_noHeightCode_32 : decode cX9_noHeightCode 32 = .ok (.goto 4, 3) := by decide +kernel
theorem dX9_noHeightCode_35 : decode cX9_noHeightCode 35 = .ok (.iconst 0, 1) := by decide +kernel
theorem dX9_noHeightCode_36 : decode cX9_noHeightCode 36 = .ok (.ireturn, 1) := by decide +kernel
theorem dX9_badEventNumber_0 : decode cX9_badEventNumber 0 = .ok (.iload_n 0, 1) := by decide +kernel
theorem dX9_badEventNumber_1 : decode cX9_badEventNumber 1 = .ok (.lookupswitch 59 #[(0, 27), (1, 43)], 27) := by decide +kernel
theorem dX9_badEventNumber_28 : decode cX9_badEventNumber 28 = .ok (.iload_n 1, 1) := by decide +kernel
theorem dX9_badEventNumber_29 : decode cX9_badEventNumber 29 = .ok (.ifCond .lt 9, 3) := by decide +kernel
theorem dX9_badEventNumber_32 : decode cX9_badEventNumber 32 = .ok (.iload_n 1, 1) := by decide +kernel
theorem dX9_badEventNumber_33 : decode cX9_badEventNumber 33 = .ok (.bipush 99, 2) := by decide +kernel
theorem dX9_badEventNumber_35 : decode cX9_badEventNumber 35 = .ok (.if_icmp .le 7, 3) := by decide +kernel
theorem dX9_badEventNumber_38 : decode cX9_badEventNumber 38 = .ok (.iconst 1, 1) := by decide +kernel
theorem dX9_badEventNumber_39 : decode cX9_badEventNumber 39 = .ok (.goto 4, 3) := by decide +kernel
theorem dX9_badEventNumber_42 : decode cX9_badEventNumber 42 = .ok (.iconst 0, 1) := by decide +kernel
theorem dX9_badEventNumber_43 : decode cX9_badEventNumber 43 = .ok (.ireturn, 1) := by decide +kernel
theorem dX9_badEventNumber_44 : decode cX9_badEventNumber 44 = .ok (.iload_n 1, 1) := by decide +kernel
theorem dX9_badEventNumber_45 : decode cX9_badEventNumber 45 = .ok (.ifCond .lt 9, 3) := by decide +kernel
theorem dX9_badEventNumber_48 : decode cX9_badEventNumber 48 = .ok (.iload_n 1, 1) := by decide +kernel
theorem dX9_badEventNumber_49 : decode cX9_badEventNumber 49 = .ok (.bipush 6, 2) := by decide +kernel
theorem dX9_badEventNumber_51 : decode cX9_badEventNumber 51 = .ok (.if_icmp .lt 7, 3) := by decide +kernel
theorem dX9_badEventNumber_54 : decode cX9_badEventNumber 54 = .ok (.iconst 1, 1) := by decide +kernel
theorem dX9_badEventNumber_55 : decode cX9_badEventNumber 55 = .ok (.goto 4, 3) := by decide +kernel
theorem dX9_badEventNumber_58 : decode cX9_badEventNumber 58 = .ok (.iconst 0, 1) := by decide +kernel
theorem dX9_badEventNumber_59 : decode cX9_badEventNumber 59 = .ok (.ireturn, 1) := by decide +kernel
theorem dX9_badEventNumber_60 : decode cX9_badEventNumber 60 = .ok (.iload_n 1, 1) := by decide +kernel
theorem dX9_badEventNumber_61 : decode cX9_badEventNumber 61 = .ok (.iconst 1, 1) := by decide +kernel
theorem dX9_badEventNumber_62 : decode cX9_badEventNumber 62 = .ok (.if_icmp .lt 9, 3) := by decide +kernel
theorem dX9_badEventNumber_65 : decode cX9_badEventNumber 65 = .ok (.iload_n 1, 1) := by decide +kernel
theorem dX9_badEventNumber_66 : decode cX9_badEventNumber 66 = .ok (.bipush 9, 2) := by decide +kernel
theorem dX9_badEventNumber_68 : decode cX9_badEventNumber 68 = .ok (.if_icmp .le 7, 3) := by decide +kernel
theorem dX9_badEventNumber_71 : decode cX9_badEventNumber 71 = .ok (.iconst 1, 1) := by decide +kernel
theorem dX9_badEventNumber_72 : decode cX9_badEventNumber 72 = .ok (.goto 4, 3) := by decide +kernel
theorem dX9_badEventNumber_75 : decode cX9_badEventNumber 75 = .ok (.iconst 0, 1) := by decide +kernel
theorem dX9_badEventNumber_76 : decode cX9_badEventNumber 76 = .ok (.ireturn, 1) := by decide +kernel
theorem dX9_noTape_0 : decode cX9_noTape 0 = .ok (.iload_n 0, 1) := by decide +kernel
theorem dX9_noTape_1 : decode cX9_noTape 1 = .ok (.ifCond .lt 9, 3) := by decide +kernel
theorem dX9_noTape_4 : decode cX9_noTape 4 = .ok (.iload_n 0, 1) := by decide +kernel
theorem dX9_noTape_5 : decode cX9_noTape 5 = .ok (.bipush 6, 2) := by decide +kernel
theorem dX9_noTape_7 : decode cX9_noTape 7 = .ok (.if_icmp .lt 7, 3) := by decide +kernel
theorem dX9_noTape_10 : decode cX9_noTape 10 = .ok (.iconst 1, 1) := by decide +kernel
theorem dX9_noTape_11 : decode cX9_noTape 11 = .ok (.goto 4, 3) := by decide +kernel
theorem dX9_noTape_14 : decode cX9_noTape 14 = .ok (.iconst 0, 1) := by decide +kernel
theorem dX9_noTape_15 : decode cX9_noTape 15 = .ok (.ireturn, 1) := by decide +kernel
theorem dX9_countJumps_0 : decode cX9_countJumps 0 = .ok (.aload_n 0, 1) := by decide +kernel
theorem dX9_countJumps_1 : decode cX9_countJumps 1 = .ok (.getfield 56, 3) := by decide +kernel
theorem dX9_countJumps_4 : decode cX9_countJumps 4 = .ok (.aload_n 1, 1) := by decide +kernel
theorem dX9_countJumps_5 : decode cX9_countJumps 5 = .ok (.invokevirtual 129, 3) := by decide +kernel
theorem dX9_countJumps_8 : decode cX9_countJumps 8 = .ok (.aload_n 0, 1) := by decide +kernel
theorem dX9_countJumps_9 : decode cX9_countJumps 9 = .ok (.getfield 63, 3) := by decide +kernel
theorem dX9_countJumps_12 : decode cX9_countJumps 12 = .ok (.aload_n 0, 1) := by decide +kernel
theorem dX9_countJumps_13 : decode cX9_countJumps 13 = .ok (.getfield 56, 3) := by decide +kernel
theorem dX9_countJumps_16 : decode cX9_countJumps 16 = .ok (.invokevirtual 344, 3) := by decide +kernel
theorem dX9_countJumps_19 : decode cX9_countJumps 19 = .ok (.aload_n 0, 1) := by decide +kernel
theorem dX9_countJumps_20 : decode cX9_countJumps 20 = .ok (.getfield 63, 3) := by decide +kernel
theorem dX9_countJumps_23 : decode cX9_countJumps 23 = .ok (.invokevirtual 348, 3) := by decide +kernel
theorem dX9_countJumps_26 : decode cX9_countJumps 26 = .ok (.ireturn, 1) := by decide +kernel
theorem dX9_countBarred_0 : decode cX9_countBarred 0 = .ok (.aload_n 0, 1) := by decide +kernel
theorem dX9_countBarred_1 : decode cX9_countBarred 1 = .ok (.getfield 56, 3) := by decide +kernel
theorem dX9_countBarred_4 : decode cX9_countBarred 4 = .ok (.aload_n 1, 1) := by decide +kernel
theorem dX9_countBarred_5 : decode cX9_countBarred 5 = .ok (.invokevirtual 129, 3) := by decide +kernel
theorem dX9_countBarred_8 : decode cX9_countBarred 8 = .ok (.iconst 0, 1) := by decide +kernel
theorem dX9_countBarred_9 : decode cX9_countBarred 9 = .ok (.istore 4, 2) := by decide +kernel
theorem dX9_countBarred_11 : decode cX9_countBarred 11 = .ok (.iconst 0, 1) := by decide +kernel
theorem dX9_countBarred_12 : decode cX9_countBarred 12 = .ok (.istore 5, 2) := by decide +kernel
theorem dX9_countBarred_14 : decode cX9_countBarred 14 = .ok (.iload 5, 2) := by decide +kernel
theorem dX9_countBarred_16 : decode cX9_countBarred 16 = .ok (.bipush 9, 2) := by decide +kernel
theorem dX9_countBarred_18 : decode cX9_countBarred 18 = .ok (.if_icmp .gt 44, 3) := by decide +kernel
theorem dX9_countBarred_21 : decode cX9_countBarred 21 = .ok (.iconst 0, 1) := by decide +kernel
theorem dX9_countBarred_22 : decode cX9_countBarred 22 = .ok (.istore 6, 2) := by decide +kernel
theorem dX9_countBarred_24 : decode cX9_countBarred 24 = .ok (.iload 6, 2) := by decide +kernel
theorem dX9_countBarred_26 : decode cX9_countBarred 26 = .ok (.bipush 9, 2) := by decide +kernel
theorem dX9_countBarred_28 : decode cX9_countBarred 28 = .ok (.if_icmp .gt 28, 3) := by decide +kernel
theorem dX9_countBarred_31 : decode cX9_countBarred 31 = .ok (.aload_n 0, 1) := by decide +kernel
theorem dX9_countBarred_32 : decode cX9_countBarred 32 = .ok (.getfield 56, 3) := by decide +kernel
theorem dX9_countBarred_35 : decode cX9_countBarred 35 = .ok (.iload 5, 2) := by decide +kernel
theorem dX9_countBarred_37 : decode cX9_countBarred 37 = .ok (.iload 6, 2) := by decide +kernel
theorem dX9_countBarred_39 : decode cX9_countBarred 39 = .ok (.iload_n 2, 1) := by decide +kernel
theorem dX9_countBarred_40 : decode cX9_countBarred 40 = .ok (.iload_n 3, 1) := by decide +kernel
theorem dX9_countBarred_41 : decode cX9_countBarred 41 = .ok (.invokevirtual 220, 3) := by decide +kernel
theorem dX9_countBarred_44 : decode cX9_countBarred 44 = .ok (.ifCond .lt 6, 3) := by decide +kernel
theorem dX9_countBarred_47 : decode cX9_countBarred 47 = .ok (.iinc 4 1, 3) := by decide +kernel
theorem dX9_countBarred_50 : decode cX9_countBarred 50 = .ok (.iinc 6 1, 3) := by decide +kernel
theorem dX9_countBarred_53 : decode cX9_countBarred 53 = .ok (.goto (-29), 3) := by decide +kernel
theorem dX9_countBarred_56 : decode cX9_countBarred 56 = .ok (.iinc 5 1, 3) := by decide +kernel
theorem dX9_countBarred_59 : decode cX9_countBarred 59 = .ok (.goto (-45), 3) := by decide +kernel
theorem dX9_countBarred_62 : decode cX9_countBarred 62 = .ok (.iload 4, 2) := by decide +kernel
theorem dX9_countBarred_64 : decode cX9_countBarred 64 = .ok (.ireturn, 1) := by decide +kernel
theorem dX9_closedness_0 : decode cX9_closedness 0 = .ok (.aload_n 0, 1) := by decide +kernel
theorem dX9_closedness_1 : decode cX9_closedness 1 = .ok (.getfield 56, 3) := by decide +kernel
theorem dX9_closedness_4 : decode cX9_closedness 4 = .ok (.aload_n 1, 1) := by decide +kernel
theorem dX9_closedness_5 : decode cX9_closedness 5 = .ok (.invokevirtual 129, 3) := by decide +kernel
theorem dX9_closedness_8 : decode cX9_closedness 8 = .ok (.iconst 0, 1) := by decide +kernel
theorem dX9_closedness_9 : decode cX9_closedness 9 = .ok (.istore_n 2, 1) := by decide +kernel
theorem dX9_closedness_10 : decode cX9_closedness 10 = .ok (.iload_n 2, 1) := by decide +kernel
theorem dX9_closedness_11 : decode cX9_closedness 11 = .ok (.bipush 9, 2) := by decide +kernel
theorem dX9_closedness_13 : decode cX9_closedness 13 = .ok (.if_icmp .gt 46, 3) := by decide +kernel
theorem dX9_closedness_16 : decode cX9_closedness 16 = .ok (.iconst 0, 1) := by decide +kernel
theorem dX9_closedness_17 : decode cX9_closedness 17 = .ok (.istore_n 3, 1) := by decide +kernel
theorem dX9_closedness_18 : decode cX9_closedness 18 = .ok (.iload_n 3, 1) := by decide +kernel
theorem dX9_closedness_19 : decode cX9_closedness 19 = .ok (.bipush 9, 2) := by decide +kernel
theorem dX9_closedness_21 : decode cX9_closedness 21 = .ok (.if_icmp .gt 32, 3) := by decide +kernel
theorem dX9_closedness_24 : decode cX9_closedness 24 = .ok (.aload_n 0, 1) := by decide +kernel
theorem dX9_closedness_25 : decode cX9_closedness 25 = .ok (.getfield 56, 3) := by decide +kernel
theorem dX9_closedness_28 : decode cX9_closedness 28 = .ok (.iload_n 2, 1) := by decide +kernel
theorem dX9_closedness_29 : decode cX9_closedness 29 = .ok (.iload_n 3, 1) := by decide +kernel
theorem dX9_closedness_30 : decode cX9_closedness 30 = .ok (.invokevirtual 205, 3) := by decide +kernel
theorem dX9_closedness_33 : decode cX9_closedness 33 = .ok (.ifCond .eq 14, 3) := by decide +kernel
theorem dX9_closedness_36 : decode cX9_closedness 36 = .ok (.aload_n 1, 1) := by decide +kernel
theorem dX9_closedness_37 : decode cX9_closedness 37 = .ok (.iload_n 2, 1) := by decide +kernel
theorem dX9_closedness_38 : decode cX9_closedness 38 = .ok (.iload_n 3, 1) := by decide +kernel
theorem dX9_closedness_39 : decode cX9_closedness 39 = .ok (.invokevirtual 202, 3) := by decide +kernel
theorem dX9_closedness_42 : decode cX9_closedness 42 = .ok (.ifCond .ne 5, 3) := by decide +kernel
theorem dX9_closedness_45 : decode cX9_closedness 45 = .ok (.iconst 0, 1) := by decide +kernel
theorem dX9_closedness_46 : decode cX9_closedness 46 = .ok (.ireturn, 1) := by decide +kernel
theorem dX9_closedness_47 : decode cX9_closedness 47 = .ok (.iinc 3 1, 3) := by decide +kernel
theorem dX9_closedness_50 : decode cX9_closedness 50 = .ok (.goto (-32), 3) := by decide +kernel
theorem dX9_closedness_53 : decode cX9_closedness 53 = .ok (.iinc 2 1, 3) := by decide +kernel
theorem dX9_closedness_56 : decode cX9_closedness 56 = .ok (.goto (-46), 3) := by decide +kernel
theorem dX9_closedness_59 : decode cX9_closedness 59 = .ok (.iconst 1, 1) := by decide +kernel
theorem dX9_closedness_60 : decode cX9_closedness 60 = .ok (.ireturn, 1) := by decide +kernel
theorem dX9_reduction_0 : decode cX9_reduction 0 = .ok (.aload_n 0, 1) := by decide +kernel
theorem dX9_reduction_1 : decode cX9_reduction 1 = .ok (.getfield 12, 3) := by decide +kernel
theorem dX9_reduction_4 : decode cX9_reduction 4 = .ok (.iconst 0, 1) := by decide +kernel
theorem dX9_reduction_5 : decode cX9_reduction 5 = .ok (.invokevirtual 85, 3) := by decide +kernel
theorem dX9_reduction_8 : decode cX9_reduction 8 = .ok (.astore_n 1, 1) := by decide +kernel
theorem dX9_reduction_9 : decode cX9_reduction 9 = .ok (.aload_n 0, 1) := by decide +kernel
theorem dX9_reduction_10 : decode cX9_reduction 10 = .ok (.getfield 12, 3) := by decide +kernel
theorem dX9_reduction_13 : decode cX9_reduction 13 = .ok (.iconst 1, 1) := by decide +kernel
theorem dX9_reduction_14 : decode cX9_reduction 14 = .ok (.invokevirtual 85, 3) := by decide +kernel
theorem dX9_reduction_17 : decode cX9_reduction 17 = .ok (.astore_n 2, 1) := by decide +kernel
theorem dX9_reduction_18 : decode cX9_reduction 18 = .ok (.aload_n 1, 1) := by decide +kernel
theorem dX9_reduction_19 : decode cX9_reduction 19 = .ok (.invokevirtual 93, 3) := by decide +kernel
theorem dX9_reduction_22 : decode cX9_reduction 22 = .ok (.ifCond .eq 10, 3) := by decide +kernel
theorem dX9_reduction_25 : decode cX9_reduction 25 = .ok (.aload_n 2, 1) := by decide +kernel
theorem dX9_reduction_26 : decode cX9_reduction 26 = .ok (.invokevirtual 93, 3) := by decide +kernel
theorem dX9_reduction_29 : decode cX9_reduction 29 = .ok (.ifCond .ne 5, 3) := by decide +kernel
theorem dX9_reduction_32 : decode cX9_reduction 32 = .ok (.iconst 0, 1) := by decide +kernel
theorem dX9_reduction_33 : decode cX9_reduction 33 = .ok (.ireturn, 1) := by decide +kernel
theorem dX9_reduction_34 : decode cX9_reduction 34 = .ok (.iconst 0, 1) := by decide +kernel
theorem dX9_reduction_35 : decode cX9_reduction 35 = .ok (.istore_n 3, 1) := by decide +kernel
theorem dX9_reduction_36 : decode cX9_reduction 36 = .ok (.iload_n 3, 1) := by decide +kernel
theorem dX9_reduction_37 : decode cX9_reduction 37 = .ok (.aload_n 1, 1) := by decide +kernel
theorem dX9_reduction_38 : decode cX9_reduction 38 = .ok (.invokevirtual 93, 3) := by decide +kernel
theorem dX9_reduction_41 : decode cX9_reduction 41 = .ok (.if_icmp .ge 28, 3) := by decide +kernel
theorem dX9_reduction_44 : decode cX9_reduction 44 = .ok (.aload_n 2, 1) := by decide +kernel
theorem dX9_reduction_45 : decode cX9_reduction 45 = .ok (.aload_n 1, 1) := by decide +kernel
theorem dX9_reduction_46 : decode cX9_reduction 46 = .ok (.iload_n 3, 1) := by decide +kernel
theorem dX9_reduction_47 : decode cX9_reduction 47 = .ok (.invokevirtual 119, 3) := by decide +kernel
theorem dX9_reduction_50 : decode cX9_reduction 50 = .ok (.aload_n 1, 1) := by decide +kernel
theorem dX9_reduction_51 : decode cX9_reduction 51 = .ok (.iload_n 3, 1) := by decide +kernel
theorem dX9_reduction_52 : decode cX9_reduction 52 = .ok (.invokevirtual 123, 3) := by decide +kernel
theorem dX9_reduction_55 : decode cX9_reduction 55 = .ok (.invokevirtual 202, 3) := by decide +kernel
theorem dX9_reduction_58 : decode cX9_reduction 58 = .ok (.ifCond .ne 5, 3) := by decide +kernel
theorem dX9_reduction_61 : decode cX9_reduction 61 = .ok (.iconst 0, 1) := by decide +kernel
theorem dX9_reduction_62 : decode cX9_reduction 62 = .ok (.ireturn, 1) := by decide +kernel
theorem dX9_reduction_63 : decode cX9_reduction 63 = .ok (.iinc 3 1, 3) := by decide +kernel
theorem dX9_reduction_66 : decode cX9_reduction 66 = .ok (.goto (-30), 3) := by decide +kernel
theorem dX9_reduction_69 : decode cX9_reduction 69 = .ok (.aload_n 0, 1) := by decide +kernel
theorem dX9_reduction_70 : decode cX9_reduction 70 = .ok (.getfield 56, 3) := by decide +kernel
theorem dX9_reduction_73 : decode cX9_reduction 73 = .ok (.aload_n 1, 1) := by decide +kernel
theorem dX9_reduction_74 : decode cX9_reduction 74 = .ok (.invokevirtual 129, 3) := by decide +kernel
theorem dX9_reduction_77 : decode cX9_reduction 77 = .ok (.iconst 0, 1) := by decide +kernel
theorem dX9_reduction_78 : decode cX9_reduction 78 = .ok (.istore_n 3, 1) := by decide +kernel
theorem dX9_reduction_79 : decode cX9_reduction 79 = .ok (.iload_n 3, 1) := by decide +kernel
theorem dX9_reduction_80 : decode cX9_reduction 80 = .ok (.aload_n 2, 1) := by decide +kernel
theorem dX9_reduction_81 : decode cX9_reduction 81 = .ok (.invokevirtual 93, 3) := by decide +kernel
theorem dX9_reduction_84 : decode cX9_reduction 84 = .ok (.if_icmp .ge 31, 3) := by decide +kernel
theorem dX9_reduction_87 : decode cX9_reduction 87 = .ok (.aload_n 0, 1) := by decide +kernel
theorem dX9_reduction_88 : decode cX9_reduction 88 = .ok (.getfield 56, 3) := by decide +kernel
theorem dX9_reduction_91 : decode cX9_reduction 91 = .ok (.aload_n 2, 1) := by decide +kernel
theorem dX9_reduction_92 : decode cX9_reduction 92 = .ok (.iload_n 3, 1) := by decide +kernel
theorem dX9_reduction_93 : decode cX9_reduction 93 = .ok (.invokevirtual 119, 3) := by decide +kernel
theorem dX9_reduction_96 : decode cX9_reduction 96 = .ok (.aload_n 2, 1) := by decide +kernel
theorem dX9_reduction_97 : decode cX9_reduction 97 = .ok (.iload_n 3, 1) := by decide +kernel
theorem dX9_reduction_98 : decode cX9_reduction 98 = .ok (.invokevirtual 123, 3) := by decide +kernel
theorem dX9_reduction_101 : decode cX9_reduction 101 = .ok (.invokevirtual 205, 3) := by decide +kernel
theorem dX9_reduction_104 : decode cX9_reduction 104 = .ok (.ifCond .ne 5, 3) := by decide +kernel
theorem dX9_reduction_107 : decode cX9_reduction 107 = .ok (.iconst 0, 1) := by decide +kernel
theorem dX9_reduction_108 : decode cX9_reduction 108 = .ok (.ireturn, 1) := by decide +kernel
theorem dX9_reduction_109 : decode cX9_reduction 109 = .ok (.iinc 3 1, 3) := by decide +kernel
theorem dX9_reduction_112 : decode cX9_reduction 112 = .ok (.goto (-33), 3) := by decide +kernel
theorem dX9_reduction_115 : decode cX9_reduction 115 = .ok (.iconst 1, 1) := by decide +kernel
theorem dX9_reduction_116 : decode cX9_reduction 116 = .ok (.ireturn, 1) := by decide +kernel
theorem dX9_met_0 : decode cX9_met 0 = .ok (.aload_n 0, 1) := by decide +kernel
theorem dX9_met_1 : decode cX9_met 1 = .ok (.getfield 12, 3) := by decide +kernel
theorem dX9_met_4 : decode cX9_met 4 = .ok (.iconst 1, 1) := by decide +kernel
theorem dX9_met_5 : decode cX9_met 5 = .ok (.invokevirtual 85, 3) := by decide +kernel
theorem dX9_met_8 : decode cX9_met 8 = .ok (.astore_n 1, 1) := by decide +kernel
theorem dX9_met_9 : decode cX9_met 9 = .ok (.aload_n 0, 1) := by decide +kernel
theorem dX9_met_10 : decode cX9_met 10 = .ok (.getfield 70, 3) := by decide +kernel
theorem dX9_met_13 : decode cX9_met 13 = .ok (.invokevirtual 258, 3) := by decide +kernel
theorem dX9_met_16 : decode cX9_met 16 = .ok (.aload_n 0, 1) := by decide +kernel
theorem dX9_met_17 : decode cX9_met 17 = .ok (.getfield 70, 3) := by decide +kernel
theorem dX9_met_20 : decode cX9_met 20 = .ok (.aload_n 0, 1) := by decide +kernel
theorem dX9_met_21 : decode cX9_met 21 = .ok (.getfield 12, 3) := by decide +kernel
theorem dX9_met_24 : decode cX9_met 24 = .ok (.iconst 0, 1) := by decide +kernel
theorem dX9_met_25 : decode cX9_met 25 = .ok (.invokevirtual 85, 3) := by decide +kernel
theorem dX9_met_28 : decode cX9_met 28 = .ok (.invokevirtual 261, 3) := by decide +kernel
theorem dX9_met_31 : decode cX9_met 31 = .ok (.aload_n 0, 1) := by decide +kernel
theorem dX9_met_32 : decode cX9_met 32 = .ok (.getfield 74, 3) := by decide +kernel
theorem dX9_met_35 : decode cX9_met 35 = .ok (.invokevirtual 258, 3) := by decide +kernel
theorem dX9_met_38 : decode cX9_met 38 = .ok (.aload_n 0, 1) := by decide +kernel
theorem dX9_met_39 : decode cX9_met 39 = .ok (.getfield 74, 3) := by decide +kernel
theorem dX9_met_42 : decode cX9_met 42 = .ok (.aload_n 1, 1) := by decide +kernel
theorem dX9_met_43 : decode cX9_met 43 = .ok (.invokevirtual 261, 3) := by decide +kernel
theorem dX9_met_46 : decode cX9_met 46 = .ok (.iconst 0, 1) := by decide +kernel
theorem dX9_met_47 : decode cX9_met 47 = .ok (.istore_n 2, 1) := by decide +kernel
theorem dX9_met_48 : decode cX9_met 48 = .ok (.iload_n 2, 1) := by decide +kernel
theorem dX9_met_49 : decode cX9_met 49 = .ok (.iconst 5, 1) := by decide +kernel
theorem dX9_met_50 : decode cX9_met 50 = .ok (.if_icmp .gt 41, 3) := by decide +kernel
theorem dX9_met_53 : decode cX9_met 53 = .ok (.aload_n 0, 1) := by decide +kernel
theorem dX9_met_54 : decode cX9_met 54 = .ok (.getfield 70, 3) := by decide +kernel
theorem dX9_met_57 : decode cX9_met 57 = .ok (.aload_n 0, 1) := by decide +kernel
theorem dX9_met_58 : decode cX9_met 58 = .ok (.getfield 74, 3) := by decide +kernel
theorem dX9_met_61 : decode cX9_met 61 = .ok (.invokevirtual 349, 3) := by decide +kernel
theorem dX9_met_64 : decode cX9_met 64 = .ok (.ifCond .eq 5, 3) := by decide +kernel
theorem dX9_met_67 : decode cX9_met 67 = .ok (.iload_n 2, 1) := by decide +kernel
theorem dX9_met_68 : decode cX9_met 68 = .ok (.ireturn, 1) := by decide +kernel
theorem dX9_met_69 : decode cX9_met 69 = .ok (.aload_n 0, 1) := by decide +kernel
theorem dX9_met_70 : decode cX9_met 70 = .ok (.getfield 70, 3) := by decide +kernel
theorem dX9_met_73 : decode cX9_met 73 = .ok (.aload_n 1, 1) := by decide +kernel
theorem dX9_met_74 : decode cX9_met 74 = .ok (.invokevirtual 261, 3) := by decide +kernel
theorem dX9_met_77 : decode cX9_met 77 = .ok (.aload_n 0, 1) := by decide +kernel
theorem dX9_met_78 : decode cX9_met 78 = .ok (.getfield 74, 3) := by decide +kernel
theorem dX9_met_81 : decode cX9_met 81 = .ok (.aload_n 1, 1) := by decide +kernel
theorem dX9_met_82 : decode cX9_met 82 = .ok (.invokevirtual 261, 3) := by decide +kernel
theorem dX9_met_85 : decode cX9_met 85 = .ok (.iinc 2 1, 3) := by decide +kernel
theorem dX9_met_88 : decode cX9_met 88 = .ok (.goto (-40), 3) := by decide +kernel
theorem dX9_met_91 : decode cX9_met 91 = .ok (.bipush (-5), 2) := by decide +kernel
theorem dX9_met_93 : decode cX9_met 93 = .ok (.ireturn, 1) := by decide +kernel
theorem dX9_fitsWith_0 : decode cX9_fitsWith 0 = .ok (.aload_n 0, 1) := by decide +kernel
theorem dX9_fitsWith_1 : decode cX9_fitsWith 1 = .ok (.getfield 12, 3) := by decide +kernel
theorem dX9_fitsWith_4 : decode cX9_fitsWith 4 = .ok (.iload_n 1, 1) := by decide +kernel
theorem dX9_fitsWith_5 : decode cX9_fitsWith 5 = .ok (.invokevirtual 85, 3) := by decide +kernel
theorem dX9_fitsWith_8 : decode cX9_fitsWith 8 = .ok (.astore 5, 2) := by decide +kernel
theorem dX9_fitsWith_10 : decode cX9_fitsWith 10 = .ok (.iload_n 3, 1) := by decide +kernel
theorem dX9_fitsWith_11 : decode cX9_fitsWith 11 = .ok (.ifCond .ne 8, 3) := by decide +kernel
theorem dX9_fitsWith_14 : decode cX9_fitsWith 14 = .ok (.iload 4, 2) := by decide +kernel
theorem dX9_fitsWith_16 : decode cX9_fitsWith 16 = .ok (.goto 9, 3) := by decide +kernel
theorem dX9_fitsWith_19 : decode cX9_fitsWith 19 = .ok (.aload 5, 2) := by decide +kernel
theorem dX9_fitsWith_21 : decode cX9_fitsWith 21 = .ok (.iload_n 2, 1) := by decide +kernel
theorem dX9_fitsWith_22 : decode cX9_fitsWith 22 = .ok (.invokevirtual 119, 3) := by decide +kernel
theorem dX9_fitsWith_25 : decode cX9_fitsWith 25 = .ok (.istore 6, 2) := by decide +kernel
theorem dX9_fitsWith_27 : decode cX9_fitsWith 27 = .ok (.iload_n 3, 1) := by decide +kernel
theorem dX9_fitsWith_28 : decode cX9_fitsWith 28 = .ok (.iconst 1, 1) := by decide +kernel
theorem dX9_fitsWith_29 : decode cX9_fitsWith 29 = .ok (.if_icmp .ne 8, 3) := by decide +kernel
theorem dX9_fitsWith_32 : decode cX9_fitsWith 32 = .ok (.iload 4, 2) := by decide +kernel
theorem dX9_fitsWith_34 : decode cX9_fitsWith 34 = .ok (.goto 9, 3) := by decide +kernel
theorem dX9_fitsWith_37 : decode cX9_fitsWith 37 = .ok (.aload 5, 2) := by decide +kernel
theorem dX9_fitsWith_39 : decode cX9_fitsWith 39 = .ok (.iload_n 2, 1) := by decide +kernel
theorem dX9_fitsWith_40 : decode cX9_fitsWith 40 = .ok (.invokevirtual 123, 3) := by decide +kernel
theorem dX9_fitsWith_43 : decode cX9_fitsWith 43 = .ok (.istore 7, 2) := by decide +kernel
theorem dX9_fitsWith_45 : decode cX9_fitsWith 45 = .ok (.aload 5, 2) := by decide +kernel
theorem dX9_fitsWith_47 : decode cX9_fitsWith 47 = .ok (.iload 6, 2) := by decide +kernel
theorem dX9_fitsWith_49 : decode cX9_fitsWith 49 = .ok (.iload 7, 2) := by decide +kernel
theorem dX9_fitsWith_51 : decode cX9_fitsWith 51 = .ok (.invokevirtual 89, 3) := by decide +kernel
theorem dX9_fitsWith_54 : decode cX9_fitsWith 54 = .ok (.istore 8, 2) := by decide +kernel
theorem dX9_fitsWith_56 : decode cX9_fitsWith 56 = .ok (.iload 8, 2) := by decide +kernel
theorem dX9_fitsWith_58 : decode cX9_fitsWith 58 = .ok (.ifCond .lt 11, 3) := by decide +kernel
theorem dX9_fitsWith_61 : decode cX9_fitsWith 61 = .ok (.iload 8, 2) := by decide +kernel
theorem dX9_fitsWith_63 : decode cX9_fitsWith 63 = .ok (.iload_n 2, 1) := by decide +kernel
theorem dX9_fitsWith_64 : decode cX9_fitsWith 64 = .ok (.if_icmp .eq 5, 3) := by decide +kernel
theorem dX9_fitsWith_67 : decode cX9_fitsWith 67 = .ok (.iconst 0, 1) := by decide +kernel
theorem dX9_fitsWith_68 : decode cX9_fitsWith 68 = .ok (.ireturn, 1) := by decide +kernel
theorem dX9_fitsWith_69 : decode cX9_fitsWith 69 = .ok (.iload_n 1, 1) := by decide +kernel
theorem dX9_fitsWith_70 : decode cX9_fitsWith 70 = .ok (.iconst 1, 1) := by decide +kernel
theorem dX9_fitsWith_71 : decode cX9_fitsWith 71 = .ok (.if_icmp .ne 16, 3) := by decide +kernel
theorem dX9_fitsWith_74 : decode cX9_fitsWith 74 = .ok (.aload_n 0, 1) := by decide +kernel
theorem dX9_fitsWith_75 : decode cX9_fitsWith 75 = .ok (.aload_n 0, 1) := by decide +kernel
theorem dX9_fitsWith_76 : decode cX9_fitsWith 76 = .ok (.getfield 12, 3) := by decide +kernel
theorem dX9_fitsWith_79 : decode cX9_fitsWith 79 = .ok (.iconst 0, 1) := by decide +kernel
theorem dX9_fitsWith_80 : decode cX9_fitsWith 80 = .ok (.invokevirtual 85, 3) := by decide +kernel
theorem dX9_fitsWith_83 : decode cX9_fitsWith 83 = .ok (.invokevirtual 353, 3) := by decide +kernel
theorem dX9_fitsWith_86 : decode cX9_fitsWith 86 = .ok (.ireturn, 1) := by decide +kernel
theorem dX9_fitsWith_87 : decode cX9_fitsWith 87 = .ok (.aload_n 0, 1) := by decide +kernel
theorem dX9_fitsWith_88 : decode cX9_fitsWith 88 = .ok (.getfield 49, 3) := by decide +kernel
theorem dX9_fitsWith_91 : decode cX9_fitsWith 91 = .ok (.aload 5, 2) := by decide +kernel
theorem dX9_fitsWith_93 : decode cX9_fitsWith 93 = .ok (.invokevirtual 136, 3) := by decide +kernel
theorem dX9_fitsWith_96 : decode cX9_fitsWith 96 = .ok (.aload_n 0, 1) := by decide +kernel
theorem dX9_fitsWith_97 : decode cX9_fitsWith 97 = .ok (.getfield 49, 3) := by decide +kernel
theorem dX9_fitsWith_100 : decode cX9_fitsWith 100 = .ok (.iload_n 2, 1) := by decide +kernel
theorem dX9_fitsWith_101 : decode cX9_fitsWith 101 = .ok (.iload 6, 2) := by decide +kernel
theorem dX9_fitsWith_103 : decode cX9_fitsWith 103 = .ok (.iload 7, 2) := by decide +kernel
theorem dX9_fitsWith_105 : decode cX9_fitsWith 105 = .ok (.invokevirtual 357, 3) := by decide +kernel
theorem dX9_fitsWith_108 : decode cX9_fitsWith 108 = .ok (.aload_n 0, 1) := by decide +kernel
theorem dX9_fitsWith_109 : decode cX9_fitsWith 109 = .ok (.aload_n 0, 1) := by decide +kernel
theorem dX9_fitsWith_110 : decode cX9_fitsWith 110 = .ok (.getfield 49, 3) := by decide +kernel
theorem dX9_fitsWith_113 : decode cX9_fitsWith 113 = .ok (.invokevirtual 353, 3) := by decide +kernel
theorem dX9_fitsWith_116 : decode cX9_fitsWith 116 = .ok (.ireturn, 1) := by decide +kernel
theorem dX9_isAsSeen_0 : decode cX9_isAsSeen 0 = .ok (.aload_n 0, 1) := by decide +kernel
theorem dX9_isAsSeen_1 : decode cX9_isAsSeen 1 = .ok (.getfield 12, 3) := by decide +kernel
theorem dX9_isAsSeen_4 : decode cX9_isAsSeen 4 = .ok (.getfield 273, 3) := by decide +kernel
theorem dX9_isAsSeen_7 : decode cX9_isAsSeen 7 = .ok (.invokevirtual 295, 3) := by decide +kernel
theorem dX9_isAsSeen_10 : decode cX9_isAsSeen 10 = .ok (.ifCond .ne 5, 3) := by decide +kernel
theorem dX9_isAsSeen_13 : decode cX9_isAsSeen 13 = .ok (.iconst 1, 1) := by decide +kernel
theorem dX9_isAsSeen_14 : decode cX9_isAsSeen 14 = .ok (.ireturn, 1) := by decide +kernel
theorem dX9_isAsSeen_15 : decode cX9_isAsSeen 15 = .ok (.aload_n 1, 1) := by decide +kernel
theorem dX9_isAsSeen_16 : decode cX9_isAsSeen 16 = .ok (.invokevirtual 93, 3) := by decide +kernel
theorem dX9_isAsSeen_19 : decode cX9_isAsSeen 19 = .ok (.ifCond .ne 5, 3) := by decide +kernel
theorem dX9_isAsSeen_22 : decode cX9_isAsSeen 22 = .ok (.iconst 0, 1) := by decide +kernel
theorem dX9_isAsSeen_23 : decode cX9_isAsSeen 23 = .ok (.ireturn, 1) := by decide +kernel
theorem dX9_isAsSeen_24 : decode cX9_isAsSeen 24 = .ok (.aload_n 0, 1) := by decide +kernel
theorem dX9_isAsSeen_25 : decode cX9_isAsSeen 25 = .ok (.aload_n 1, 1) := by decide +kernel
theorem dX9_isAsSeen_26 : decode cX9_isAsSeen 26 = .ok (.invokevirtual 199, 3) := by decide +kernel
theorem dX9_isAsSeen_29 : decode cX9_isAsSeen 29 = .ok (.istore_n 2, 1) := by decide +kernel
theorem dX9_isAsSeen_30 : decode cX9_isAsSeen 30 = .ok (.iconst 0, 1) := by decide +kernel
theorem dX9_isAsSeen_31 : decode cX9_isAsSeen 31 = .ok (.istore_n 3, 1) := by decide +kernel
theorem dX9_isAsSeen_32 : decode cX9_isAsSeen 32 = .ok (.iload_n 3, 1) := by decide +kernel
theorem dX9_isAsSeen_33 : decode cX9_isAsSeen 33 = .ok (.aload_n 0, 1) := by decide +kernel
theorem dX9_isAsSeen_34 : decode cX9_isAsSeen 34 = .ok (.getfield 12, 3) := by decide +kernel
theorem dX9_isAsSeen_37 : decode cX9_isAsSeen 37 = .ok (.getfield 273, 3) := by decide +kernel
theorem dX9_isAsSeen_40 : decode cX9_isAsSeen 40 = .ok (.invokevirtual 295, 3) := by decide +kernel
theorem dX9_isAsSeen_43 : decode cX9_isAsSeen 43 = .ok (.if_icmp .ge 64, 3) := by decide +kernel
theorem dX9_isAsSeen_46 : decode cX9_isAsSeen 46 = .ok (.aload_n 0, 1) := by decide +kernel
theorem dX9_isAsSeen_47 : decode cX9_isAsSeen 47 = .ok (.getfield 12, 3) := by decide +kernel
theorem dX9_isAsSeen_50 : decode cX9_isAsSeen 50 = .ok (.getfield 273, 3) := by decide +kernel
theorem dX9_isAsSeen_53 : decode cX9_isAsSeen 53 = .ok (.iload_n 3, 1) := by decide +kernel
theorem dX9_isAsSeen_54 : decode cX9_isAsSeen 54 = .ok (.invokevirtual 296, 3) := by decide +kernel
theorem dX9_isAsSeen_57 : decode cX9_isAsSeen 57 = .ok (.istore 4, 2) := by decide +kernel
theorem dX9_isAsSeen_59 : decode cX9_isAsSeen 59 = .ok (.iload 4, 2) := by decide +kernel
theorem dX9_isAsSeen_61 : decode cX9_isAsSeen 61 = .ok (.iload_n 2, 1) := by decide +kernel
theorem dX9_isAsSeen_62 : decode cX9_isAsSeen 62 = .ok (.if_icmp .ge 37, 3) := by decide +kernel
theorem dX9_isAsSeen_65 : decode cX9_isAsSeen 65 = .ok (.aload_n 0, 1) := by decide +kernel
theorem dX9_isAsSeen_66 : decode cX9_isAsSeen 66 = .ok (.getfield 63, 3) := by decide +kernel
theorem dX9_isAsSeen_69 : decode cX9_isAsSeen 69 = .ok (.iload 4, 2) := by decide +kernel
theorem dX9_isAsSeen_71 : decode cX9_isAsSeen 71 = .ok (.aload_n 0, 1) := by decide +kernel
theorem dX9_isAsSeen_72 : decode cX9_isAsSeen 72 = .ok (.getfield 12, 3) := by decide +kernel
theorem dX9_isAsSeen_75 : decode cX9_isAsSeen 75 = .ok (.getfield 273, 3) := by decide +kernel
theorem dX9_isAsSeen_78 : decode cX9_isAsSeen 78 = .ok (.iload_n 3, 1) := by decide +kernel
theorem dX9_isAsSeen_79 : decode cX9_isAsSeen 79 = .ok (.invokevirtual 299, 3) := by decide +kernel
theorem dX9_isAsSeen_82 : decode cX9_isAsSeen 82 = .ok (.aload_n 0, 1) := by decide +kernel
theorem dX9_isAsSeen_83 : decode cX9_isAsSeen 83 = .ok (.getfield 12, 3) := by decide +kernel
theorem dX9_isAsSeen_86 : decode cX9_isAsSeen 86 = .ok (.getfield 273, 3) := by decide +kernel
theorem dX9_isAsSeen_89 : decode cX9_isAsSeen 89 = .ok (.iload_n 3, 1) := by decide +kernel
theorem dX9_isAsSeen_90 : decode cX9_isAsSeen 90 = .ok (.invokevirtual 361, 3) := by decide +kernel
theorem dX9_isAsSeen_93 : decode cX9_isAsSeen 93 = .ok (.invokevirtual 364, 3) := by decide +kernel
theorem dX9_isAsSeen_96 : decode cX9_isAsSeen 96 = .ok (.ifCond .eq 5, 3) := by decide +kernel
theorem dX9_isAsSeen_99 : decode cX9_isAsSeen 99 = .ok (.iconst 0, 1) := by decide +kernel
theorem dX9_isAsSeen_100 : decode cX9_isAsSeen 100 = .ok (.ireturn, 1) := by decide +kernel
theorem dX9_isAsSeen_101 : decode cX9_isAsSeen 101 = .ok (.iinc 3 1, 3) := by decide +kernel
theorem dX9_isAsSeen_104 : decode cX9_isAsSeen 104 = .ok (.goto (-72), 3) := by decide +kernel
theorem dX9_isAsSeen_107 : decode cX9_isAsSeen 107 = .ok (.iconst 1, 1) := by decide +kernel
theorem dX9_isAsSeen_108 : decode cX9_isAsSeen 108 = .ok (.ireturn, 1) := by decide +kernel
theorem dX9_happen_0 : decode cX9_happen 0 = .ok (.iload_n 1, 1) := by decide +kernel
theorem dX9_happen_1 : decode cX9_happen 1 = .ok (.lookupswitch 56 #[(0, 27), (1, 45)], 27) := by decide +kernel
theorem dX9_happen_28 : decode cX9_happen 28 = .ok (.aload_n 0, 1) := by decide +kernel
theorem dX9_happen_29 : decode cX9_happen 29 = .ok (.getfield 49, 3) := by decide +kernel
theorem dX9_happen_32 : decode cX9_happen 32 = .ok (.iload_n 2, 1) := by decide +kernel
theorem dX9_happen_33 : decode cX9_happen 33 = .ok (.bipush 10, 2) := by decide +kernel
theorem dX9_happen_35 : decode cX9_happen 35 = .ok (.idiv, 1) := by decide +kernel
theorem dX9_happen_36 : decode cX9_happen 36 = .ok (.iload_n 2, 1) := by decide +kernel
theorem dX9_happen_37 : decode cX9_happen 37 = .ok (.bipush 10, 2) := by decide +kernel
theorem dX9_happen_39 : decode cX9_happen 39 = .ok (.irem, 1) := by decide +kernel
theorem dX9_happen_40 : decode cX9_happen 40 = .ok (.invokevirtual 126, 3) := by decide +kernel
theorem dX9_happen_43 : decode cX9_happen 43 = .ok (.goto 22, 3) := by decide +kernel
theorem dX9_happen_46 : decode cX9_happen 46 = .ok (.aload_n 0, 1) := by decide +kernel
theorem dX9_happen_47 : decode cX9_happen 47 = .ok (.getfield 49, 3) := by decide +kernel
theorem dX9_happen_50 : decode cX9_happen 50 = .ok (.iload_n 2, 1) := by decide +kernel
theorem dX9_happen_51 : decode cX9_happen 51 = .ok (.invokevirtual 108, 3) := by decide +kernel
theorem dX9_happen_54 : decode cX9_happen 54 = .ok (.goto 11, 3) := by decide +kernel
theorem dX9_happen_57 : decode cX9_happen 57 = .ok (.aload_n 0, 1) := by decide +kernel
theorem dX9_happen_58 : decode cX9_happen 58 = .ok (.getfield 49, 3) := by decide +kernel
theorem dX9_happen_61 : decode cX9_happen 61 = .ok (.iload_n 2, 1) := by decide +kernel
theorem dX9_happen_62 : decode cX9_happen 62 = .ok (.invokevirtual 367, 3) := by decide +kernel
theorem dX9_happen_65 : decode cX9_happen 65 = .ok (.return_, 1) := by decide +kernel
theorem dX9_lowerOf_0 : decode cX9_lowerOf 0 = .ok (.iload_n 0, 1) := by decide +kernel
theorem dX9_lowerOf_1 : decode cX9_lowerOf 1 = .ok (.bipush (-5), 2) := by decide +kernel
theorem dX9_lowerOf_3 : decode cX9_lowerOf 3 = .ok (.if_icmp .ne 5, 3) := by decide +kernel
theorem dX9_lowerOf_6 : decode cX9_lowerOf 6 = .ok (.iload_n 1, 1) := by decide +kernel
theorem dX9_lowerOf_7 : decode cX9_lowerOf 7 = .ok (.ireturn, 1) := by decide +kernel
theorem dX9_lowerOf_8 : decode cX9_lowerOf 8 = .ok (.iload_n 1, 1) := by decide +kernel
theorem dX9_lowerOf_9 : decode cX9_lowerOf 9 = .ok (.bipush (-5), 2) := by decide +kernel
theorem dX9_lowerOf_11 : decode cX9_lowerOf 11 = .ok (.if_icmp .ne 7, 3) := by decide +kernel
theorem dX9_lowerOf_14 : decode cX9_lowerOf 14 = .ok (.iload_n 0, 1) := by decide +kernel
theorem dX9_lowerOf_15 : decode cX9_lowerOf 15 = .ok (.goto 8, 3) := by decide +kernel
theorem dX9_lowerOf_18 : decode cX9_lowerOf 18 = .ok (.iload_n 0, 1) := by decide +kernel
theorem dX9_lowerOf_19 : decode cX9_lowerOf 19 = .ok (.iload_n 1, 1) := by decide +kernel
theorem dX9_lowerOf_20 : decode cX9_lowerOf 20 = .ok (.invokestatic 370, 3) := by decide +kernel
theorem dX9_lowerOf_23 : decode cX9_lowerOf 23 = .ok (.ireturn, 1) := by decide +kernel
theorem dX9_lowest_0 : decode cX9_lowest 0 = .ok (.iload_n 0, 1) := by decide +kernel
theorem dX9_lowest_1 : decode cX9_lowest 1 = .ok (.iload_n 1, 1) := by decide +kernel
theorem dX9_lowest_2 : decode cX9_lowest 2 = .ok (.invokestatic 375, 3) := by decide +kernel
theorem dX9_lowest_5 : decode cX9_lowest 5 = .ok (.istore_n 3, 1) := by decide +kernel
theorem dX9_lowest_6 : decode cX9_lowest 6 = .ok (.iload_n 3, 1) := by decide +kernel
theorem dX9_lowest_7 : decode cX9_lowest 7 = .ok (.ifCond .ne 7, 3) := by decide +kernel
theorem dX9_lowest_10 : decode cX9_lowest 10 = .ok (.ldc2_w 230, 3) := by decide +kernel
theorem dX9_lowest_13 : decode cX9_lowest 13 = .ok (.lreturn, 1) := by decide +kernel
theorem dX9_lowest_14 : decode cX9_lowest 14 = .ok (.iload_n 2, 1) := by decide +kernel
theorem dX9_lowest_15 : decode cX9_lowest 15 = .ok (.ifCond .ne 10, 3) := by decide +kernel
theorem dX9_lowest_18 : decode cX9_lowest 18 = .ok (.iload_n 0, 1) := by decide +kernel
theorem dX9_lowest_19 : decode cX9_lowest 19 = .ok (.iload_n 3, 1) := by decide +kernel
theorem dX9_lowest_20 : decode cX9_lowest 20 = .ok (.idiv, 1) := by decide +kernel
theorem dX9_lowest_21 : decode cX9_lowest 21 = .ok (.i2l, 1) := by decide +kernel
theorem dX9_lowest_22 : decode cX9_lowest 22 = .ok (.goto 7, 3) := by decide +kernel
theorem dX9_lowest_25 : decode cX9_lowest 25 = .ok (.iload_n 1, 1) := by decide +kernel
theorem dX9_lowest_26 : decode cX9_lowest 26 = .ok (.iload_n 3, 1) := by decide +kernel
theorem dX9_lowest_27 : decode cX9_lowest 27 = .ok (.idiv, 1) := by decide +kernel
theorem dX9_lowest_28 : decode cX9_lowest 28 = .ok (.i2l, 1) := by decide +kernel
theorem dX9_lowest_29 : decode cX9_lowest 29 = .ok (.lreturn, 1) := by decide +kernel
theorem dX9_commonDivisor_0 : decode cX9_commonDivisor 0 = .ok (.iload_n 0, 1) := by decide +kernel
theorem dX9_commonDivisor_1 : decode cX9_commonDivisor 1 = .ok (.istore_n 2, 1) := by decide +kernel
theorem dX9_commonDivisor_2 : decode cX9_commonDivisor 2 = .ok (.iload_n 1, 1) := by decide +kernel
theorem dX9_commonDivisor_3 : decode cX9_commonDivisor 3 = .ok (.istore_n 3, 1) := by decide +kernel
theorem dX9_commonDivisor_4 : decode cX9_commonDivisor 4 = .ok (.iconst 0, 1) := by decide +kernel
theorem dX9_commonDivisor_5 : decode cX9_commonDivisor 5 = .ok (.istore 4, 2) := by decide +kernel
theorem dX9_commonDivisor_7 : decode cX9_commonDivisor 7 = .ok (.iload 4, 2) := by decide +kernel
theorem dX9_commonDivisor_9 : decode cX9_commonDivisor 9 = .ok (.bipush 64, 2) := by decide +kernel
theorem dX9_commonDivisor_11 : decode cX9_commonDivisor 11 = .ok (.if_icmp .ge 23, 3) := by decide +kernel
theorem dX9_commonDivisor_14 : decode cX9_commonDivisor 14 = .ok (.iload_n 3, 1) := by decide +kernel
theorem dX9_commonDivisor_15 : decode cX9_commonDivisor 15 = .ok (.ifCond .eq 19, 3) := by decide +kernel
theorem dX9_commonDivisor_18 : decode cX9_commonDivisor 18 = .ok (.iload_n 2, 1) := by decide +kernel
theorem dX9_commonDivisor_19 : decode cX9_commonDivisor 19 = .ok (.iload_n 3, 1) := by decide +kernel
theorem dX9_commonDivisor_20 : decode cX9_commonDivisor 20 = .ok (.irem, 1) := by decide +kernel
theorem dX9_commonDivisor_21 : decode cX9_commonDivisor 21 = .ok (.istore 5, 2) := by decide +kernel
theorem dX9_commonDivisor_23 : decode cX9_commonDivisor 23 = .ok (.iload_n 3, 1) := by decide +kernel
theorem dX9_commonDivisor_24 : decode cX9_commonDivisor 24 = .ok (.istore_n 2, 1) := by decide +kernel
theorem dX9_commonDivisor_25 : decode cX9_commonDivisor 25 = .ok (.iload 5, 2) := by decide +kernel
theorem dX9_commonDivisor_27 : decode cX9_commonDivisor 27 = .ok (.istore_n 3, 1) := by decide +kernel
theorem dX9_commonDivisor_28 : decode cX9_commonDivisor 28 = .ok (.iinc 4 1, 3) := by decide +kernel
theorem dX9_commonDivisor_31 : decode cX9_commonDivisor 31 = .ok (.goto (-24), 3) := by decide +kernel
theorem dX9_commonDivisor_34 : decode cX9_commonDivisor 34 = .ok (.iload_n 2, 1) := by decide +kernel
theorem dX9_commonDivisor_35 : decode cX9_commonDivisor 35 = .ok (.ireturn, 1) := by decide +kernel
theorem dX10_init_0 : decode cX10_init 0 = .ok (.aload_n 0, 1) := by decide +kernel
theorem dX10_init_1 : decode cX10_init 1 = .ok (.invokespecial 3, 3) := by decide +kernel
theorem dX10_init_4 : decode cX10_init 4 = .ok (.aload_n 0, 1) := by decide +kernel
theorem dX10_init_5 : decode cX10_init 5 = .ok (.iconst 3, 1) := by decide +kernel
theorem dX10_init_6 : decode cX10_init 6 = .ok (.newarray .int, 2) := by decide +kernel
theorem dX10_init_8 : decode cX10_init 8 = .ok (.putfield 11, 3) := by decide +kernel
theorem dX10_init_11 : decode cX10_init 11 = .ok (.aload_n 0, 1) := by decide +kernel
theorem dX10_init_12 : decode cX10_init 12 = .ok (.bipush 18, 2) := by decide +kernel
theorem dX10_init_14 : decode cX10_init 14 = .ok (.newarray .int, 2) := by decide +kernel
theorem dX10_init_16 : decode cX10_init 16 = .ok (.putfield 15, 3) := by decide +kernel
theorem dX10_init_19 : decode cX10_init 19 = .ok (.aload_n 0, 1) := by decide +kernel
theorem dX10_init_20 : decode cX10_init 20 = .ok (.bipush 18, 2) := by decide +kernel
theorem dX10_init_22 : decode cX10_init 22 = .ok (.newarray .int, 2) := by decide +kernel
theorem dX10_init_24 : decode cX10_init 24 = .ok (.putfield 18, 3) := by decide +kernel
theorem dX10_init_27 : decode cX10_init 27 = .ok (.aload_n 0, 1) := by decide +kernel
theorem dX10_init_28 : decode cX10_init 28 = .ok (.bipush 10, 2) := by decide +kernel
theorem dX10_init_30 : decode cX10_init 30 = .ok (.newarray .int, 2) := by decide +kernel
theorem dX10_init_32 : decode cX10_init 32 = .ok (.putfield 21, 3) := by decide +kernel
theorem dX10_init_35 : decode cX10_init 35 = .ok (.aload_n 0, 1) := by decide +kernel
theorem dX10_init_36 : decode cX10_init 36 = .ok (.bipush 10, 2) := by decide +kernel
theorem dX10_init_38 : decode cX10_init 38 = .ok (.newarray .int, 2) := by decide +kernel
theorem dX10_init_40 : decode cX10_init 40 = .ok (.putfield 24, 3) := by decide +kernel
theorem dX10_init_43 : decode cX10_init 43 = .ok (.aload_n 0, 1) := by decide +kernel
theorem dX10_init_44 : decode cX10_init 44 = .ok (.bipush 60, 2) := by decide +kernel
theorem dX10_init_46 : decode cX10_init 46 = .ok (.newarray .int, 2) := by decide +kernel
theorem dX10_init_48 : decode cX10_init 48 = .ok (.putfield 27, 3) := by decide +kernel
theorem dX10_init_51 : decode cX10_init 51 = .ok (.aload_n 0, 1) := by decide +kernel
theorem dX10_init_52 : decode cX10_init 52 = .ok (.bipush 60, 2) := by decide +kernel
theorem dX10_init_54 : decode cX10_init 54 = .ok (.newarray .int, 2) := by decide +kernel
theorem dX10_init_56 : decode cX10_init 56 = .ok (.putfield 30, 3) := by decide +kernel
theorem dX10_init_59 : decode cX10_init 59 = .ok (.aload_n 0, 1) := by decide +kernel
theorem dX10_init_60 : decode cX10_init 60 = .ok (.bipush 100, 2) := by decide +kernel
theorem dX10_init_62 : decode cX10_init 62 = .ok (.newarray .int, 2) := by decide +kernel
theorem dX10_init_64 : decode cX10_init 64 = .ok (.putfield 33, 3) := by decide +kernel
theorem dX10_init_67 : decode cX10_init 67 = .ok (.aload_n 0, 1) := by decide +kernel
theorem dX10_init_68 : decode cX10_init 68 = .ok (.iconst 3, 1) := by decide +kernel
theorem dX10_init_69 : decode cX10_init 69 = .ok (.newarray .int, 2) := by decide +kernel
theorem dX10_init_71 : decode cX10_init 71 = .ok (.putfield 36, 3) := by decide +kernel
theorem dX10_init_74 : decode cX10_init 74 = .ok (.aload_n 0, 1) := by decide +kernel
theorem dX10_init_75 : decode cX10_init 75 = .ok (.bipush 64, 2) := by decide +kernel
theorem dX10_init_77 : decode cX10_init 77 = .ok (.newarray .int, 2) := by decide +kernel
theorem dX10_init_79 : decode cX10_init 79 = .ok (.putfield 39, 3) := by decide +kernel
theorem dX10_init_82 : decode cX10_init 82 = .ok (.aload_n 0, 1) := by decide +kernel
theorem dX10_init_83 : decode cX10_init 83 = .ok (.bipush 64, 2) := by decide +kernel
theorem dX10_init_85 : decode cX10_init 85 = .ok (.newarray .int, 2) := by decide +kernel
theorem dX10_init_87 : decode cX10_init 87 = .ok (.putfield 42, 3) := by decide +kernel
theorem dX10_init_90 : decode cX10_init 90 = .ok (.aload_n 0, 1) := by decide +kernel
theorem dX10_init_91 : decode cX10_init 91 = .ok (.bipush 64, 2) := by decide +kernel
theorem dX10_init_93 : decode cX10_init 93 = .ok (.newarray .int, 2) := by decide +kernel
theorem dX10_init_95 : decode cX10_init 95 = .ok (.putfield 45, 3) := by decide +kernel
theorem dX10_init_98 : decode cX10_init 98 = .ok (.aload_n 0, 1) := by decide +kernel
theorem dX10_init_99 : decode cX10_init 99 = .ok (.bipush 100, 2) := by decide +kernel
theorem dX10_init_101 : decode cX10_init 101 = .ok (.newarray .int, 2) := by decide +kernel
theorem dX10_init_103 : decode cX10_init 103 = .ok (.putfield 48, 3) := by decide +kernel
theorem dX10_init_106 : decode cX10_init 106 = .ok (.aload_n 0, 1) := by decide +kernel
theorem dX10_init_107 : decode cX10_init 107 = .ok (.bipush 100, 2) := by decide +kernel
theorem dX10_init_109 : decode cX10_init 109 = .ok (.newarray .int, 2) := by decide +kernel
theorem dX10_init_111 : decode cX10_init 111 = .ok (.putfield 51, 3) := by decide +kernel
theorem dX10_init_114 : decode cX10_init 114 = .ok (.aload_n 0, 1) := by decide +kernel
theorem dX10_init_115 : decode cX10_init 115 = .ok (.bipush 72, 2) := by decide +kernel
theorem dX10_init_117 : decode cX10_init 117 = .ok (.newarray .int, 2) := by decide +kernel
theorem dX10_init_119 : decode cX10_init 119 = .ok (.putfield 54, 3) := by decide +kernel
theorem dX10_init_122 : decode cX10_init 122 = .ok (.aload_n 0, 1) := by decide +kernel
theorem dX10_init_123 : decode cX10_init 123 = .ok (.bipush 72, 2) := by decide +kernel
theorem dX10_init_125 : decode cX10_init 125 = .ok (.newarray .int, 2) := by decide +kernel
theorem dX10_init_127 : decode cX10_init 127 = .ok (.putfield 57, 3) := by decide +kernel
theorem dX10_init_130 : decode cX10_init 130 = .ok (.aload_n 0, 1) := by decide +kernel
theorem dX10_init_131 : decode cX10_init 131 = .ok (.bipush 72, 2) := by decide +kernel
theorem dX10_init_133 : decode cX10_init 133 = .ok (.newarray .int, 2) := by decide +kernel
theorem dX10_init_135 : decode cX10_init 135 = .ok (.putfield 60, 3) := by decide +kernel
theorem dX10_init_138 : decode cX10_init 138 = .ok (.aload_n 0, 1) := by decide +kernel
theorem dX10_init_139 : decode cX10_init 139 = .ok (.iconst 4, 1) := by decide +kernel
theorem dX10_init_140 : decode cX10_init 140 = .ok (.newarray .int, 2) := by decide +kernel
theorem dX10_init_142 : decode cX10_init 142 = .ok (.putfield 63, 3) := by decide +kernel
theorem dX10_init_145 : decode cX10_init 145 = .ok (.aload_n 0, 1) := by decide +kernel
theorem dX10_init_146 : decode cX10_init 146 = .ok (.iconst 4, 1) := by decide +kernel
theorem dX10_init_147 : decode cX10_init 147 = .ok (.newarray .int, 2) := by decide +kernel
theorem dX10_init_149 : decode cX10_init 149 = .ok (.putfield 66, 3) := by decide +kernel
theorem dX10_init_152 : decode cX10_init 152 = .ok (.aload_n 0, 1) := by decide +kernel
theorem dX10_init_153 : decode cX10_init 153 = .ok (.iconst 4, 1) := by decide +kernel
theorem dX10_init_154 : decode cX10_init 154 = .ok (.newarray .int, 2) := by decide +kernel
theorem dX10_init_156 : decode cX10_init 156 = .ok (.putfield 69, 3) := by decide +kernel
theorem dX10_init_159 : decode cX10_init 159 = .ok (.aload_n 0, 1) := by decide +kernel
theorem dX10_init_160 : decode cX10_init 160 = .ok (.bipush 8, 2) := by decide +kernel
theorem dX10_init_162 : decode cX10_init 162 = .ok (.newarray .int, 2) := by decide +kernel
theorem dX10_init_164 : decode cX10_init 164 = .ok (.putfield 72, 3) := by decide +kernel
theorem dX10_init_167 : decode cX10_init 167 = .ok (.aload_n 0, 1) := by decide +kernel
theorem dX10_init_168 : decode cX10_init 168 = .ok (.bipush 8, 2) := by decide +kernel
theorem dX10_init_170 : decode cX10_init 170 = .ok (.newarray .int, 2) := by decide +kernel
theorem dX10_init_172 : decode cX10_init 172 = .ok (.putfield 75, 3) := by decide +kernel
theorem dX10_init_175 : decode cX10_init 175 = .ok (.aload_n 0, 1) := by decide +kernel
theorem dX10_init_176 : decode cX10_init 176 = .ok (.bipush 8, 2) := by decide +kernel
theorem dX10_init_178 : decode cX10_init 178 = .ok (.newarray .int, 2) := by decide +kernel
theorem dX10_init_180 : decode cX10_init 180 = .ok (.putfield 78, 3) := by decide +kernel
theorem dX10_init_183 : decode cX10_init 183 = .ok (.aload_n 0, 1) := by decide +kernel
theorem dX10_init_184 : decode cX10_init 184 = .ok (.bipush 8, 2) := by decide +kernel
theorem dX10_init_186 : decode cX10_init 186 = .ok (.newarray .int, 2) := by decide +kernel
theorem dX10_init_188 : decode cX10_init 188 = .ok (.putfield 81, 3) := by decide +kernel
theorem dX10_init_191 : decode cX10_init 191 = .ok (.aload_n 0, 1) := by decide +kernel
theorem dX10_init_192 : decode cX10_init 192 = .ok (.bipush 6, 2) := by decide +kernel
theorem dX10_init_194 : decode cX10_init 194 = .ok (.newarray .int, 2) := by decide +kernel
theorem dX10_init_196 : decode cX10_init 196 = .ok (.dup, 1) := by decide +kernel
theorem dX10_init_197 : decode cX10_init 197 = .ok (.iconst 0, 1) := by decide +kernel
theorem dX10_init_198 : decode cX10_init 198 = .ok (.iconst (-1), 1) := by decide +kernel
theorem dX10_init_199 : decode cX10_init 199 = .ok (.iastore, 1) := by decide +kernel
theorem dX10_init_200 : decode cX10_init 200 = .ok (.dup, 1) := by decide +kernel
theorem dX10_init_201 : decode cX10_init 201 = .ok (.iconst 1, 1) := by decide +kernel
theorem dX10_init_202 : decode cX10_init 202 = .ok (.iconst (-1), 1) := by decide +kernel
theorem dX10_init_203 : decode cX10_init 203 = .ok (.iastore, 1) := by decide +kernel
theorem dX10_init_204 : decode cX10_init 204 = .ok (.dup, 1) := by decide +kernel
theorem dX10_init_205 : decode cX10_init 205 = .ok (.iconst 2, 1) := by decide +kernel
theorem dX10_init_206 : decode cX10_init 206 = .ok (.iconst (-1), 1) := by decide +kernel
theorem dX10_init_207 : decode cX10_init 207 = .ok (.iastore, 1) := by decide +kernel
theorem dX10_init_208 : decode cX10_init 208 = .ok (.dup, 1) := by decide +kernel
theorem dX10_init_209 : decode cX10_init 209 = .ok (.iconst 3, 1) := by decide +kernel
theorem dX10_init_210 : decode cX10_init 210 = .ok (.iconst (-1), 1) := by decide +kernel
theorem dX10_init_211 : decode cX10_init 211 = .ok (.iastore, 1) := by decide +kernel
theorem dX10_init_212 : decode cX10_init 212 = .ok (.dup, 1) := by decide +kernel
theorem dX10_init_213 : decode cX10_init 213 = .ok (.iconst 4, 1) := by decide +kernel
theorem dX10_init_214 : decode cX10_init 214 = .ok (.iconst (-1), 1) := by decide +kernel
theorem dX10_init_215 : decode cX10_init 215 = .ok (.iastore, 1) := by decide +kernel
theorem dX10_init_216 : decode cX10_init 216 = .ok (.dup, 1) := by decide +kernel
theorem dX10_init_217 : decode cX10_init 217 = .ok (.iconst 5, 1) := by decide +kernel
theorem dX10_init_218 : decode cX10_init 218 = .ok (.iconst (-1), 1) := by decide +kernel
theorem dX10_init_219 : decode cX10_init 219 = .ok (.iastore, 1) := by decide +kernel
theorem dX10_init_220 : decode cX10_init 220 = .ok (.putfield 84, 3) := by decide +kernel
theorem dX10_init_223 : decode cX10_init 223 = .ok (.aload_n 0, 1) := by decide +kernel
theorem dX10_init_224 : decode cX10_init 224 = .ok (.bipush 6, 2) := by decide +kernel
theorem dX10_init_226 : decode cX10_init 226 = .ok (.newarray .int, 2) := by decide +kernel
theorem dX10_init_228 : decode cX10_init 228 = .ok (.putfield 87, 3) := by decide +kernel
theorem dX10_init_231 : decode cX10_init 231 = .ok (.aload_n 0, 1) := by decide +kernel
theorem dX10_init_232 : decode cX10_init 232 = .ok (.sipush 360, 3) := by decide +kernel
theorem dX10_init_235 : decode cX10_init 235 = .ok (.newarray .long, 2) := by decide +kernel
theorem dX10_init_237 : decode cX10_init 237 = .ok (.putfield 90, 3) := by decide +kernel
theorem dX10_init_240 : decode cX10_init 240 = .ok (.aload_n 0, 1) := by decide +kernel
theorem dX10_init_241 : decode cX10_init 241 = .ok (.bipush 60, 2) := by decide +kernel
theorem dX10_init_243 : decode cX10_init 243 = .ok (.newarray .long, 2) := by decide +kernel
theorem dX10_init_245 : decode cX10_init 245 = .ok (.putfield 94, 3) := by decide +kernel
theorem dX10_init_248 : decode cX10_init 248 = .ok (.aload_n 0, 1) := by decide +kernel
theorem dX10_init_249 : decode cX10_init 249 = .ok (.iconst 2, 1) := by decide +kernel
theorem dX10_init_250 : decode cX10_init 250 = .ok (.newarray .int, 2) := by decide +kernel
theorem dX10_init_252 : decode cX10_init 252 = .ok (.putfield 97, 3) := by decide +kernel
theorem dX10_init_255 : decode cX10_init 255 = .ok (.aload_n 0, 1) := by decide +kernel
theorem dX10_init_256 : decode cX10_init 256 = .ok (.bipush 12, 2) := by decide +kernel
theorem dX10_init_258 : decode cX10_init 258 = .ok (.newarray .int, 2) := by decide +kernel
theorem dX10_init_260 : decode cX10_init 260 = .ok (.putfield 100, 3) := by decide +kernel
theorem dX10_init_263 : decode cX10_init 263 = .ok (.aload_n 0, 1) := by decide +kernel
theorem dX10_init_264 : decode cX10_init 264 = .ok (.bipush 12, 2) := by decide +kernel
theorem dX10_init_266 : decode cX10_init 266 = .ok (.newarray .int, 2) := by decide +kernel
theorem dX10_init_268 : decode cX10_init 268 = .ok (.putfield 103, 3) := by decide +kernel
theorem dX10_init_271 : decode cX10_init 271 = .ok (.aload_n 0, 1) := by decide +kernel
theorem dX10_init_272 : decode cX10_init 272 = .ok (.bipush 12, 2) := by decide +kernel
theorem dX10_init_274 : decode cX10_init 274 = .ok (.newarray .int, 2) := by decide +kernel
theorem dX10_init_276 : decode cX10_init 276 = .ok (.putfield 106, 3) := by decide +kernel
theorem dX10_init_279 : decode cX10_init 279 = .ok (.aload_n 0, 1) := by decide +kernel
theorem dX10_init_280 : decode cX10_init 280 = .ok (.bipush 16, 2) := by decide +kernel
theorem dX10_init_282 : decode cX10_init 282 = .ok (.newarray .int, 2) := by decide +kernel
theorem dX10_init_284 : decode cX10_init 284 = .ok (.putfield 109, 3) := by decide +kernel
theorem dX10_init_287 : decode cX10_init 287 = .ok (.aload_n 0, 1) := by decide +kernel
theorem dX10_init_288 : decode cX10_init 288 = .ok (.bipush 16, 2) := by decide +kernel
theorem dX10_init_290 : decode cX10_init 290 = .ok (.newarray .int, 2) := by decide +kernel
theorem dX10_init_292 : decode cX10_init 292 = .ok (.putfield 112, 3) := by decide +kernel
theorem dX10_init_295 : decode cX10_init 295 = .ok (.return_, 1) := by decide +kernel
theorem dX10_isFrom_0 : decode cX10_isFrom 0 = .ok (.lload_n 0, 1) := by decide +kernel
theorem dX10_isFrom_1 : decode cX10_isFrom 1 = .ok (.lload_n 2, 1) := by decide +kernel
theorem dX10_isFrom_2 : decode cX10_isFrom 2 = .ok (.lcmp, 1) := by decide +kernel
theorem dX10_isFrom_3 : decode cX10_isFrom 3 = .ok (.ifCond .lt 14, 3) := by decide +kernel
theorem dX10_isFrom_6 : decode cX10_isFrom 6 = .ok (.lload_n 0, 1) := by decide +kernel
theorem dX10_isFrom_7 : decode cX10_isFrom 7 = .ok (.lload 4, 2) := by decide +kernel
theorem dX10_isFrom_9 : decode cX10_isFrom 9 = .ok (.lcmp, 1) := by decide +kernel
theorem dX10_isFrom_10 : decode cX10_isFrom 10 = .ok (.ifCond .gt 7, 3) := by decide +kernel
theorem dX10_isFrom_13 : decode cX10_isFrom 13 = .ok (.iconst 1, 1) := by decide +kernel
theorem dX10_isFrom_14 : decode cX10_isFrom 14 = .ok (.goto 4, 3) := by decide +kernel
theorem dX10_isFrom_17 : decode cX10_isFrom 17 = .ok (.iconst 0, 1) := by decide +kernel
theorem dX10_isFrom_18 : decode cX10_isFrom 18 = .ok (.ireturn, 1) := by decide +kernel
theorem dX10_isIdeal_0 : decode cX10_isIdeal 0 = .ok (.iload_n 0, 1) := by decide +kernel
theorem dX10_isIdeal_1 : decode cX10_isIdeal 1 = .ok (.i2l, 1) := by decide +kernel
theorem dX10_isIdeal_2 : decode cX10_isIdeal 2 = .ok (.lconst 0, 1) := by decide +kernel
theorem dX10_isIdeal_3 : decode cX10_isIdeal 3 = .ok (.lconst 1, 1) := by decide +kernel
theorem dX10_isIdeal_4 : decode cX10_isIdeal 4 = .ok (.invokestatic 115, 3) := by decide +kernel
theorem dX10_isIdeal_7 : decode cX10_isIdeal 7 = .ok (.ireturn, 1) := by decide +kernel
theorem dX10_isPower_0 : decode cX10_isPower 0 = .ok (.iload_n 0, 1) := by decide +kernel
theorem dX10_isPower_1 : decode cX10_isPower 1 = .ok (.i2l, 1) := by decide +kernel
theorem dX10_isPower_2 : decode cX10_isPower 2 = .ok (.lconst 0, 1) := by decide +kernel
theorem dX10_isPower_3 : decode cX10_isPower 3 = .ok (.ldc2_w 119, 3) := by decide +kernel
theorem dX10_isPower_6 : decode cX10_isPower 6 = .ok (.invokestatic 115, 3) := by decide +kernel
theorem dX10_isPower_9 : decode cX10_isPower 9 = .ok (.ireturn, 1) := by decide +kernel
theorem dX10_divisor_0 : decode cX10_divisor 0 = .ok (.lload_n 0, 1) := by decide +kernel
theorem dX10_divisor_1 : decode cX10_divisor 1 = .ok (.lstore 4, 2) := by decide +kernel
theorem dX10_divisor_3 : decode cX10_divisor 3 = .ok (.lload_n 2, 1) := by decide +kernel
theorem dX10_divisor_4 : decode cX10_divisor 4 = .ok (.lstore 6, 2) := by decide +kernel
theorem dX10_divisor_6 : decode cX10_divisor 6 = .ok (.lload 6, 2) := by decide +kernel
theorem dX10_divisor_8 : decode cX10_divisor 8 = .ok (.lconst 0, 1) := by decide +kernel
theorem dX10_divisor_9 : decode cX10_divisor 9 = .ok (.lcmp, 1) := by decide +kernel
theorem dX10_divisor_10 : decode cX10_divisor 10 = .ok (.ifCond .eq 21, 3) := by decide +kernel
theorem dX10_divisor_13 : decode cX10_divisor 13 = .ok (.lload 4, 2) := by decide +kernel
theorem dX10_divisor_15 : decode cX10_divisor 15 = .ok (.lload 6, 2) := by decide +kernel
theorem dX10_divisor_17 : decode cX10_divisor 17 = .ok (.lrem, 1) := by decide +kernel
theorem dX10_divisor_18 : decode cX10_divisor 18 = .ok (.lstore 8, 2) := by decide +kernel
theorem dX10_divisor_20 : decode cX10_divisor 20 = .ok (.lload 6, 2) := by decide +kernel
theorem dX10_divisor_22 : decode cX10_divisor 22 = .ok (.lstore 4, 2) := by decide +kernel
theorem dX10_divisor_24 : decode cX10_divisor 24 = .ok (.lload 8, 2) := by decide +kernel
theorem dX10_divisor_26 : decode cX10_divisor 26 = .ok (.lstore 6, 2) := by decide +kernel
theorem dX10_divisor_28 : decode cX10_divisor 28 = .ok (.goto (-22), 3) := by decide +kernel
theorem dX10_divisor_31 : decode cX10_divisor 31 = .ok (.lload 4, 2) := by decide +kernel
theorem dX10_divisor_33 : decode cX10_divisor 33 = .ok (.lreturn, 1) := by decide +kernel
theorem dX10_part_0 : decode cX10_part 0 = .ok (.lload_n 0, 1) := by decide +kernel
theorem dX10_part_1 : decode cX10_part 1 = .ok (.lload_n 2, 1) := by decide +kernel
theorem dX10_part_2 : decode cX10_part 2 = .ok (.invokestatic 121, 3) := by decide +kernel
theorem dX10_part_5 : decode cX10_part 5 = .ok (.lstore 5, 2) := by decide +kernel
theorem dX10_part_7 : decode cX10_part 7 = .ok (.iload 4, 2) := by decide +kernel
theorem dX10_part_9 : decode cX10_part 9 = .ok (.ifCond .ne 10, 3) := by decide +kernel
theorem dX10_part_12 : decode cX10_part 12 = .ok (.lload_n 0, 1) := by decide +kernel
theorem dX10_part_13 : decode cX10_part 13 = .ok (.lload 5, 2) := by decide +kernel
theorem dX10_part_15 : decode cX10_part 15 = .ok (.ldiv, 1) := by decide +kernel
theorem dX10_part_16 : decode cX10_part 16 = .ok (.goto 7, 3) := by decide +kernel
theorem dX10_part_19 : decode cX10_part 19 = .ok (.lload_n 2, 1) := by decide +kernel
theorem dX10_part_20 : decode cX10_part 20 = .ok (.lload 5, 2) := by decide +kernel
theorem dX10_part_22 : decode cX10_part 22 = .ok (.ldiv, 1) := by decide +kernel
theorem dX10_part_23 : decode cX10_part 23 = .ok (.lreturn, 1) := by decide +kernel
theorem dX10_a_0 : decode cX10_a 0 = .ok (.aload_n 0, 1) := by decide +kernel
theorem dX10_a_1 : decode cX10_a 1 = .ok (.getfield 15, 3) := by decide +kernel
theorem dX10_a_4 : decode cX10_a 4 = .ok (.bipush 6, 2) := by decide +kernel
theorem dX10_a_6 : decode cX10_a 6 = .ok (.iload_n 1, 1) := by decide +kernel
theorem dX10_a_7 : decode cX10_a 7 = .ok (.imul, 1) := by decide +kernel
theorem dX10_a_8 : decode cX10_a 8 = .ok (.iload_n 2, 1) := by decide +kernel
theorem dX10_a_9 : decode cX10_a 9 = .ok (.iadd, 1) := by decide +kernel
theorem dX10_a_10 : decode cX10_a 10 = .ok (.iaload, 1) := by decide +kernel
theorem dX10_a_11 : decode cX10_a 11 = .ok (.ireturn, 1) := by decide +kernel
theorem dX10_b_0 : decode cX10_b 0 = .ok (.aload_n 0, 1) := by decide +kernel
theorem dX10_b_1 : decode cX10_b 1 = .ok (.getfield 18, 3) := by decide +kernel
theorem dX10_b_4 : decode cX10_b 4 = .ok (.bipush 6, 2) := by decide +kernel
theorem dX10_b_6 : decode cX10_b 6 = .ok (.iload_n 1, 1) := by decide +kernel
theorem dX10_b_7 : decode cX10_b 7 = .ok (.imul, 1) := by decide +kernel
theorem dX10_b_8 : decode cX10_b 8 = .ok (.iload_n 2, 1) := by decide +kernel
theorem dX10_b_9 : decode cX10_b 9 = .ok (.iadd, 1) := by decide +kernel
theorem dX10_b_10 : decode cX10_b 10 = .ok (.iaload, 1) := by decide +kernel
theorem dX10_b_11 : decode cX10_b 11 = .ok (.ireturn, 1) := by decide +kernel
theorem dX10_which_0 : decode cX10_which 0 = .ok (.iconst 0, 1) := by decide +kernel
theorem dX10_which_1 : decode cX10_which 1 = .ok (.istore 4, 2) := by decide +kernel
theorem dX10_which_3 : decode cX10_which 3 = .ok (.iload 4, 2) := by decide +kernel
theorem dX10_which_5 : decode cX10_which 5 = .ok (.aload_n 0, 1) := by decide +kernel
theorem dX10_which_6 : decode cX10_which 6 = .ok (.getfield 11, 3) := by decide +kernel
theorem dX10_which_9 : decode cX10_which 9 = .ok (.iload_n 1, 1) := by decide +kernel
theorem dX10_which_10 : decode cX10_which 10 = .ok (.iaload, 1) := by decide +kernel
theorem dX10_which_11 : decode cX10_which 11 = .ok (.if_icmp .ge 34, 3) := by decide +kernel
theorem dX10_which_14 : decode cX10_which 14 = .ok (.aload_n 0, 1) := by decide +kernel
theorem dX10_which_15 : decode cX10_which 15 = .ok (.iload_n 1, 1) := by decide +kernel
theorem dX10_which_16 : decode cX10_which 16 = .ok (.iload 4, 2) := by decide +kernel
theorem dX10_which_18 : decode cX10_which 18 = .ok (.invokevirtual 125, 3) := by decide +kernel
theorem dX10_which_21 : decode cX10_which 21 = .ok (.iload_n 2, 1) := by decide +kernel
theorem dX10_which_22 : decode cX10_which 22 = .ok (.if_icmp .ne 17, 3) := by decide +kernel
theorem dX10_which_25 : decode cX10_which 25 = .ok (.aload_n 0, 1) := by decide +kernel
theorem dX10_which_26 : decode cX10_which 26 = .ok (.iload_n 1, 1) := by decide +kernel
theorem dX10_which_27 : decode cX10_which 27 = .ok (.iload 4, 2) := by decide +kernel
theorem dX10_which_29 : decode cX10_which 29 = .ok (.invokevirtual 129, 3) := by decide +kernel
theorem dX10_which_32 : decode cX10_which 32 = .ok (.iload_n 3, 1) := by decide +kernel
theorem dX10_which_33 : decode cX10_which 33 = .ok (.if_icmp .ne 6, 3) := by decide +kernel
theorem dX10_which_36 : decode cX10_which 36 = .ok (.iload 4, 2) := by decide +kernel
theorem dX10_which_38 : decode cX10_which 38 = .ok (.ireturn, 1) := by decide +kernel
theorem dX10_which_39 : decode cX10_which 39 = .ok (.iinc 4 1, 3) := by decide +kernel
theorem dX10_which_42 : decode cX10_which 42 = .ok (.goto (-39), 3) := by decide +kernel
theorem dX10_which_45 : decode cX10_which 45 = .ok (.iconst (-1), 1) := by decide +kernel
theorem dX10_which_46 : decode cX10_which 46 = .ok (.ireturn, 1) := by decide +kernel
theorem dX10_comes_0 : decode cX10_comes 0 = .ok (.aload_n 0, 1) := by decide +kernel
theorem dX10_comes_1 : decode cX10_comes 1 = .ok (.getfield 15, 3) := by decide +kernel
theorem dX10_comes_4 : decode cX10_comes 4 = .ok (.bipush 6, 2) := by decide +kernel
theorem dX10_comes_6 : decode cX10_comes 6 = .ok (.iload_n 1, 1) := by decide +kernel
theorem dX10_comes_7 : decode cX10_comes 7 = .ok (.imul, 1) := by decide +kernel
theorem dX10_comes_8 : decode cX10_comes 8 = .ok (.aload_n 0, 1) := by decide +kernel
theorem dX10_comes_9 : decode cX10_comes 9 = .ok (.getfield 11, 3) := by decide +kernel
theorem dX10_comes_12 : decode cX10_comes 12 = .ok (.iload_n 1, 1) := by decide +kernel
theorem dX10_comes_13 : decode cX10_comes 13 = .ok (.iaload, 1) := by decide +kernel
theorem dX10_comes_14 : decode cX10_comes 14 = .ok (.iadd, 1) := by decide +kernel
theorem dX10_comes_15 : decode cX10_comes 15 = .ok (.iload_n 2, 1) := by decide +kernel
theorem dX10_comes_16 : decode cX10_comes 16 = .ok (.iastore, 1) := by decide +kernel
theorem dX10_comes_17 : decode cX10_comes 17 = .ok (.aload_n 0, 1) := by decide +kernel
theorem dX10_comes_18 : decode cX10_comes 18 = .ok (.getfield 18, 3) := by decide +kernel
theorem dX10_comes_21 : decode cX10_comes 21 = .ok (.bipush 6, 2) := by decide +kernel
theorem dX10_comes_23 : decode cX10_comes 23 = .ok (.iload_n 1, 1) := by decide +kernel
theorem dX10_comes_24 : decode cX10_comes 24 = .ok (.imul, 1) := by decide +kernel
theorem dX10_comes_25 : decode cX10_comes 25 = .ok (.aload_n 0, 1) := by decide +kernel
theorem dX10_comes_26 : decode cX10_comes 26 = .ok (.getfield 11, 3) := by decide +kernel
theorem dX10_comes_29 : decode cX10_comes 29 = .ok (.iload_n 1, 1) := by decide +kernel
theorem dX10_comes_30 : decode cX10_comes 30 = .ok (.iaload, 1) := by decide +kernel
theorem dX10_comes_31 : decode cX10_comes 31 = .ok (.iadd, 1) := by decide +kernel
theorem dX10_comes_32 : decode cX10_comes 32 = .ok (.iload_n 3, 1) := by decide +kernel
theorem dX10_comes_33 : decode cX10_comes 33 = .ok (.iastore, 1) := by decide +kernel
theorem dX10_comes_34 : decode cX10_comes 34 = .ok (.aload_n 0, 1) := by decide +kernel
theorem dX10_comes_35 : decode cX10_comes 35 = .ok (.getfield 11, 3) := by decide +kernel
theorem dX10_comes_38 : decode cX10_comes 38 = .ok (.iload_n 1, 1) := by decide +kernel
theorem dX10_comes_39 : decode cX10_comes 39 = .ok (.dup2, 1) := by decide +kernel
theorem dX10_comes_40 : decode cX10_comes 40 = .ok (.iaload, 1) := by decide +kernel
theorem dX10_comes_41 : decode cX10_comes 41 = .ok (.iconst 1, 1) := by decide +kernel
theorem dX10_comes_42 : decode cX10_comes 42 = .ok (.iadd, 1) := by decide +kernel
theorem dX10_comes_43 : decode cX10_comes 43 = .ok (.iastore, 1) := by decide +kernel
theorem dX10_comes_44 : decode cX10_comes 44 = .ok (.return_, 1) := by decide +kernel
theorem dX10_goes_0 : decode cX10_goes 0 = .ok (.bipush 6, 2) := by decide +kernel
theorem dX10_goes_2 : decode cX10_goes 2 = .ok (.iload_n 1, 1) := by decide +kernel
theorem dX10_goes_3 : decode cX10_goes 3 = .ok (.imul, 1) := by decide +kernel
theorem dX10_goes_4 : decode cX10_goes 4 = .ok (.iload_n 2, 1) := by decide +kernel
theorem dX10_goes_5 : decode cX10_goes 5 = .ok (.iadd, 1) := by decide +kernel
theorem dX10_goes_6 : decode cX10_goes 6 = .ok (.istore_n 3, 1) := by decide +kernel
theorem dX10_goes_7 : decode cX10_goes 7 = .ok (.iload_n 3, 1) := by decide +kernel
theorem dX10_goes_8 : decode cX10_goes 8 = .ok (.bipush 6, 2) := by decide +kernel
theorem dX10_goes_10 : decode cX10_goes 10 = .ok (.iload_n 1, 1) := by decide +kernel
theorem dX10_goes_11 : decode cX10_goes 11 = .ok (.imul, 1) := by decide +kernel
theorem dX10_goes_12 : decode cX10_goes 12 = .ok (.aload_n 0, 1) := by decide +kernel
theorem dX10_goes_13 : decode cX10_goes 13 = .ok (.getfield 11, 3) := by decide +kernel
theorem dX10_goes_16 : decode cX10_goes 16 = .ok (.iload_n 1, 1) := by decide +kernel
theorem dX10_goes_17 : decode cX10_goes 17 = .ok (.iaload, 1) := by decide +kernel
theorem dX10_goes_18 : decode cX10_goes 18 = .ok (.iadd, 1) := by decide +kernel
theorem dX10_goes_19 : decode cX10_goes 19 = .ok (.iconst 1, 1) := by decide +kernel
theorem dX10_goes_20 : decode cX10_goes 20 = .ok (.isub, 1) := by decide +kernel
theorem dX10_goes_21 : decode cX10_goes 21 = .ok (.if_icmp .ge 37, 3) := by decide +kernel
theorem dX10_goes_24 : decode cX10_goes 24 = .ok (.aload_n 0, 1) := by decide +kernel
theorem dX10_goes_25 : decode cX10_goes 25 = .ok (.getfield 15, 3) := by decide +kernel
theorem dX10_goes_28 : decode cX10_goes 28 = .ok (.iload_n 3, 1) := by decide +kernel
theorem dX10_goes_29 : decode cX10_goes 29 = .ok (.aload_n 0, 1) := by decide +kernel
theorem dX10_goes_30 : decode cX10_goes 30 = .ok (.getfield 15, 3) := by decide +kernel
theorem dX10_goes_33 : decode cX10_goes 33 = .ok (.iload_n 3, 1) := by decide +kernel
theorem dX10_goes_34 : decode cX10_goes 34 = .ok (.iconst 1, 1) := by decide +kernel
theorem dX10_goes_35 : decode cX10_goes 35 = .ok (.iadd, 1) := by decide +kernel
theorem dX10_goes_36 : decode cX10_goes 36 = .ok (.iaload, 1) := by decide +kernel
theorem dX10_goes_37 : decode cX10_goes 37 = .ok (.iastore, 1) := by decide +kernel
theorem dX10_goes_38 : decode cX10_goes 38 = .ok (.aload_n 0, 1) := by decide +kernel
theorem dX10_goes_39 : decode cX10_goes 39 = .ok (.getfield 18, 3) := by decide +kernel
theorem dX10_goes_42 : decode cX10_goes 42 = .ok (.iload_n 3, 1) := by decide +kernel
theorem dX10_goes_43 : decode cX10_goes 43 = .ok (.aload_n 0, 1) := by decide +kernel
theorem dX10_goes_44 : decode cX10_goes 44 = .ok (.getfield 18, 3) := by decide +kernel
theorem dX10_goes_47 : decode cX10_goes 47 = .ok (.iload_n 3, 1) := by decide +kernel
theorem dX10_goes_48 : decode cX10_goes 48 = .ok (.iconst 1, 1) := by decide +kernel
theorem dX10_goes_49 : decode cX10_goes 49 = .ok (.iadd, 1) := by decide +kernel
theorem dX10_goes_50 : decode cX10_goes 50 = .ok (.iaload, 1) := by decide +kernel
theorem dX10_goes_51 : decode cX10_goes 51 = .ok (.iastore, 1) := by decide +kernel
theorem dX10_goes_52 : decode cX10_goes 52 = .ok (.iinc 3 1, 3) := by decide +kernel
theorem dX10_goes_55 : decode cX10_goes 55 = .ok (.goto (-48), 3) := by decide +kernel
theorem dX10_goes_58 : decode cX10_goes 58 = .ok (.aload_n 0, 1) := by decide +kernel
theorem dX10_goes_59 : decode cX10_goes 59 = .ok (.getfield 11, 3) := by decide +kernel
theorem dX10_goes_62 : decode cX10_goes 62 = .ok (.iload_n 1, 1) := by decide +kernel
theorem dX10_goes_63 : decode cX10_goes 63 = .ok (.dup2, 1) := by decide +kernel
theorem dX10_goes_64 : decode cX10_goes 64 = .ok (.iaload, 1) := by decide +kernel
theorem dX10_goes_65 : decode cX10_goes 65 = .ok (.iconst 1, 1) := by decide +kernel
theorem dX10_goes_66 : decode cX10_goes 66 = .ok (.isub, 1) := by decide +kernel
theorem dX10_goes_67 : decode cX10_goes 67 = .ok (.iastore, 1) := by decide +kernel
theorem dX10_goes_68 : decode cX10_goes 68 = .ok (.return_, 1) := by decide +kernel
theorem dX10_likens_0 : decode cX10_likens 0 = .ok (.aload_n 0, 1) := by decide +kernel
theorem dX10_likens_1 : decode cX10_likens 1 = .ok (.getfield 11, 3) := by decide +kernel
theorem dX10_likens_4 : decode cX10_likens 4 = .ok (.iload_n 2, 1) := by decide +kernel
theorem dX10_likens_5 : decode cX10_likens 5 = .ok (.aload_n 0, 1) := by decide +kernel
theorem dX10_likens_6 : decode cX10_likens 6 = .ok (.getfield 11, 3) := by decide +kernel
theorem dX10_likens_9 : decode cX10_likens 9 = .ok (.iload_n 1, 1) := by decide +kernel
theorem dX10_likens_10 : decode cX10_likens 10 = .ok (.iaload, 1) := by decide +kernel
theorem dX10_likens_11 : decode cX10_likens 11 = .ok (.iastore, 1) := by decide +kernel
theorem dX10_likens_12 : decode cX10_likens 12 = .ok (.iconst 0, 1) := by decide +kernel
theorem dX10_likens_13 : decode cX10_likens 13 = .ok (.istore_n 3, 1) := by decide +kernel
theorem dX10_likens_14 : decode cX10_likens 14 = .ok (.iload_n 3, 1) := by decide +kernel
theorem dX10_likens_15 : decode cX10_likens 15 = .ok (.bipush 6, 2) := by decide +kernel
theorem dX10_likens_17 : decode cX10_likens 17 = .ok (.if_icmp .ge 43, 3) := by decide +kernel
theorem dX10_likens_20 : decode cX10_likens 20 = .ok (.aload_n 0, 1) := by decide +kernel
theorem dX10_likens_21 : decode cX10_likens 21 = .ok (.getfield 15, 3) := by decide +kernel
theorem dX10_likens_24 : decode cX10_likens 24 = .ok (.bipush 6, 2) := by decide +kernel
theorem dX10_likens_26 : decode cX10_likens 26 = .ok (.iload_n 2, 1) := by decide +kernel
theorem dX10_likens_27 : decode cX10_likens 27 = .ok (.imul, 1) := by decide +kernel
theorem dX10_likens_28 : decode cX10_likens 28 = .ok (.iload_n 3, 1) := by decide +kernel
theorem dX10_likens_29 : decode cX10_likens 29 = .ok (.iadd, 1) := by decide +kernel
theorem dX10_likens_30 : decode cX10_likens 30 = .ok (.aload_n 0, 1) := by decide +kernel
theorem dX10_likens_31 : decode cX10_likens 31 = .ok (.iload_n 1, 1) := by decide +kernel
theorem dX10_likens_32 : decode cX10_likens 32 = .ok (.iload_n 3, 1) := by decide +kernel
theorem dX10_likens_33 : decode cX10_likens 33 = .ok (.invokevirtual 125, 3) := by decide +kernel
theorem dX10_likens_36 : decode cX10_likens 36 = .ok (.iastore, 1) := by decide +kernel
theorem dX10_likens_37 : decode cX10_likens 37 = .ok (.aload_n 0, 1) := by decide +kernel
theorem dX10_likens_38 : decode cX10_likens 38 = .ok (.getfield 18, 3) := by decide +kernel
theorem dX10_likens_41 : decode cX10_likens 41 = .ok (.bipush 6, 2) := by decide +kernel
theorem dX10_likens_43 : decode cX10_likens 43 = .ok (.iload_n 2, 1) := by decide +kernel
theorem dX10_likens_44 : decode cX10_likens 44 = .ok (.imul, 1) := by decide +kernel
theorem dX10_likens_45 : decode cX10_likens 45 = .ok (.iload_n 3, 1) := by decide +kernel
theorem dX10_likens_46 : decode cX10_likens 46 = .ok (.iadd, 1) := by decide +kernel
theorem dX10_likens_47 : decode cX10_likens 47 = .ok (.aload_n 0, 1) := by decide +kernel
theorem dX10_likens_48 : decode cX10_likens 48 = .ok (.iload_n 1, 1) := by decide +kernel
theorem dX10_likens_49 : decode cX10_likens 49 = .ok (.iload_n 3, 1) := by decide +kernel
theorem dX10_likens_50 : decode cX10_likens 50 = .ok (.invokevirtual 129, 3) := by decide +kernel
theorem dX10_likens_53 : decode cX10_likens 53 = .ok (.iastore, 1) := by decide +kernel
theorem dX10_likens_54 : decode cX10_likens 54 = .ok (.iinc 3 1, 3) := by decide +kernel
theorem dX10_likens_57 : decode cX10_likens 57 = .ok (.goto (-43), 3) := by decide +kernel
theorem dX10_likens_60 : decode cX10_likens 60 = .ok (.return_, 1) := by decide +kernel
theorem dX10_deed_0 : decode cX10_deed 0 = .ok (.aload_n 0, 1) := by decide +kernel
theorem dX10_deed_1 : decode cX10_deed 1 = .ok (.getfield 132, 3) := by decide +kernel
theorem dX10_deed_4 : decode cX10_deed 4 = .ok (.bipush 10, 2) := by decide +kernel
theorem dX10_deed_6 : decode cX10_deed 6 = .ok (.if_icmp .ne 100, 3) := by decide +kernel
theorem dX10_deed_9 : decode cX10_deed 9 = .ok (.iconst 1, 1) := by decide +kernel
theorem dX10_deed_10 : decode cX10_deed 10 = .ok (.istore_n 2, 1) := by decide +kernel
theorem dX10_deed_11 : decode cX10_deed 11 = .ok (.iload_n 2, 1) := by decide +kernel
theorem dX10_deed_12 : decode cX10_deed 12 = .ok (.bipush 10, 2) := by decide +kernel
theorem dX10_deed_14 : decode cX10_deed 14 = .ok (.if_icmp .ge 37, 3) := by decide +kernel
theorem dX10_deed_17 : decode cX10_deed 17 = .ok (.aload_n 0, 1) := by decide +kernel
theorem dX10_deed_18 : decode cX10_deed 18 = .ok (.getfield 21, 3) := by decide +kernel
theorem dX10_deed_21 : decode cX10_deed 21 = .ok (.iload_n 2, 1) := by decide +kernel
theorem dX10_deed_22 : decode cX10_deed 22 = .ok (.iconst 1, 1) := by decide +kernel
theorem dX10_deed_23 : decode cX10_deed 23 = .ok (.isub, 1) := by decide +kernel
theorem dX10_deed_24 : decode cX10_deed 24 = .ok (.aload_n 0, 1) := by decide +kernel
theorem dX10_deed_25 : decode cX10_deed 25 = .ok (.getfield 21, 3) := by decide +kernel
theorem dX10_deed_28 : decode cX10_deed 28 = .ok (.iload_n 2, 1) := by decide +kernel
theorem dX10_deed_29 : decode cX10_deed 29 = .ok (.iaload, 1) := by decide +kernel
theorem dX10_deed_30 : decode cX10_deed 30 = .ok (.iastore, 1) := by decide +kernel
theorem dX10_deed_31 : decode cX10_deed 31 = .ok (.aload_n 0, 1) := by decide +kernel
theorem dX10_deed_32 : decode cX10_deed 32 = .ok (.getfield 24, 3) := by decide +kernel
theorem dX10_deed_35 : decode cX10_deed 35 = .ok (.iload_n 2, 1) := by decide +kernel
theorem dX10_deed_36 : decode cX10_deed 36 = .ok (.iconst 1, 1) := by decide +kernel
theorem dX10_deed_37 : decode cX10_deed 37 = .ok (.isub, 1) := by decide +kernel
theorem dX10_deed_38 : decode cX10_deed 38 = .ok (.aload_n 0, 1) := by decide +kernel
theorem dX10_deed_39 : decode cX10_deed 39 = .ok (.getfield 24, 3) := by decide +kernel
theorem dX10_deed_42 : decode cX10_deed 42 = .ok (.iload_n 2, 1) := by decide +kernel
theorem dX10_deed_43 : decode cX10_deed 43 = .ok (.iaload, 1) := by decide +kernel
theorem dX10_deed_44 : decode cX10_deed 44 = .ok (.iastore, 1) := by decide +kernel
theorem dX10_deed_45 : decode cX10_deed 45 = .ok (.iinc 2 1, 3) := by decide +kernel
theorem dX10_deed_48 : decode cX10_deed 48 = .ok (.goto (-37), 3) := by decide +kernel
theorem dX10_deed_51 : decode cX10_deed 51 = .ok (.bipush 6, 2) := by decide +kernel
theorem dX10_deed_53 : decode cX10_deed 53 = .ok (.istore_n 2, 1) := by decide +kernel
theorem dX10_deed_54 : decode cX10_deed 54 = .ok (.iload_n 2, 1) := by decide +kernel
theorem dX10_deed_55 : decode cX10_deed 55 = .ok (.bipush 60, 2) := by decide +kernel
theorem dX10_deed_57 : decode cX10_deed 57 = .ok (.if_icmp .ge 39, 3) := by decide +kernel
theorem dX10_deed_60 : decode cX10_deed 60 = .ok (.aload_n 0, 1) := by decide +kernel
theorem dX10_deed_61 : decode cX10_deed 61 = .ok (.getfield 27, 3) := by decide +kernel
theorem dX10_deed_64 : decode cX10_deed 64 = .ok (.iload_n 2, 1) := by decide +kernel
theorem dX10_deed_65 : decode cX10_deed 65 = .ok (.bipush 6, 2) := by decide +kernel
theorem dX10_deed_67 : decode cX10_deed 67 = .ok (.isub, 1) := by decide +kernel
theorem dX10_deed_68 : decode cX10_deed 68 = .ok (.aload_n 0, 1) := by decide +kernel
theorem dX10_deed_69 : decode cX10_deed 69 = .ok (.getfield 27, 3) := by decide +kernel
theorem dX10_deed_72 : decode cX10_deed 72 = .ok (.iload_n 2, 1) := by decide +kernel
theorem dX10_deed_73 : decode cX10_deed 73 = .ok (.iaload, 1) := by decide +kernel
theorem dX10_deed_74 : decode cX10_deed 74 = .ok (.iastore, 1) := by decide +kernel
theorem dX10_deed_75 : decode cX10_deed 75 = .ok (.aload_n 0, 1) := by decide +kernel
theorem dX10_deed_76 : decode cX10_deed 76 = .ok (.getfield 30, 3) := by decide +kernel
theorem dX10_deed_79 : decode cX10_deed 79 = .ok (.iload_n 2, 1) := by decide +kernel
theorem dX10_deed_80 : decode cX10_deed 80 = .ok (.bipush 6, 2) := by decide +kernel
theorem dX10_deed_82 : decode cX10_deed 82 = .ok (.isub, 1) := by decide +kernel
theorem dX10_deed_83 : decode cX10_deed 83 = .ok (.aload_n 0, 1) := by decide +kernel
theorem dX10_deed_84 : decode cX10_deed 84 = .ok (.getfield 30, 3) := by decide +kernel
theorem dX10_deed_87 : decode cX10_deed 87 = .ok (.iload_n 2, 1) := by decide +kernel
theorem dX10_deed_88 : decode cX10_deed 88 = .ok (.iaload, 1) := by decide +kernel
theorem dX10_deed_89 : decode cX10_deed 89 = .ok (.iastore, 1) := by decide +kernel
theorem dX10_deed_90 : decode cX10_deed 90 = .ok (.iinc 2 1, 3) := by decide +kernel
theorem dX10_deed_93 : decode cX10_deed 93 = .ok (.goto (-39), 3) := by decide +kernel
theorem dX10_deed_96 : decode cX10_deed 96 = .ok (.aload_n 0, 1) := by decide +kernel
theorem dX10_deed_97 : decode cX10_deed 97 = .ok (.dup, 1) := by decide +kernel
theorem dX10_deed_98 : decode cX10_deed 98 = .ok (.getfield 132, 3) := by decide +kernel
theorem dX10_deed_101 : decode cX10_deed 101 = .ok (.iconst 1, 1) := by decide +kernel
theorem dX10_deed_102 : decode cX10_deed 102 = .ok (.isub, 1) := by decide +kernel
theorem dX10_deed_103 : decode cX10_deed 103 = .ok (.putfield 132, 3) := by decide +kernel
theorem dX10_deed_106 : decode cX10_deed 106 = .ok (.aload_n 0, 1) := by decide +kernel
theorem dX10_deed_107 : decode cX10_deed 107 = .ok (.getfield 21, 3) := by decide +kernel
theorem dX10_deed_110 : decode cX10_deed 110 = .ok (.aload_n 0, 1) := by decide +kernel
theorem dX10_deed_111 : decode cX10_deed 111 = .ok (.getfield 132, 3) := by decide +kernel
theorem dX10_deed_114 : decode cX10_deed 114 = .ok (.iload_n 1, 1) := by decide +kernel
theorem dX10_deed_115 : decode cX10_deed 115 = .ok (.iastore, 1) := by decide +kernel
theorem dX10_deed_116 : decode cX10_deed 116 = .ok (.aload_n 0, 1) := by decide +kernel
theorem dX10_deed_117 : decode cX10_deed 117 = .ok (.getfield 24, 3) := by decide +kernel
theorem dX10_deed_120 : decode cX10_deed 120 = .ok (.aload_n 0, 1) := by decide +kernel
theorem dX10_deed_121 : decode cX10_deed 121 = .ok (.getfield 132, 3) := by decide +kernel
theorem dX10_deed_124 : decode cX10_deed 124 = .ok (.aload_n 0, 1) := by decide +kernel
theorem dX10_deed_125 : decode cX10_deed 125 = .ok (.getfield 11, 3) := by decide +kernel
theorem dX10_deed_128 : decode cX10_deed 128 = .ok (.iload_n 1, 1) := by decide +kernel
theorem dX10_deed_129 : decode cX10_deed 129 = .ok (.iaload, 1) := by decide +kernel
theorem dX10_deed_130 : decode cX10_deed 130 = .ok (.iastore, 1) := by decide +kernel
theorem dX10_deed_131 : decode cX10_deed 131 = .ok (.iconst 0, 1) := by decide +kernel
theorem dX10_deed_132 : decode cX10_deed 132 = .ok (.istore_n 2, 1) := by decide +kernel
theorem dX10_deed_133 : decode cX10_deed 133 = .ok (.iload_n 2, 1) := by decide +kernel
theorem dX10_deed_134 : decode cX10_deed 134 = .ok (.bipush 6, 2) := by decide +kernel
theorem dX10_deed_136 : decode cX10_deed 136 = .ok (.if_icmp .ge 49, 3) := by decide +kernel
theorem dX10_deed_139 : decode cX10_deed 139 = .ok (.aload_n 0, 1) := by decide +kernel
theorem dX10_deed_140 : decode cX10_deed 140 = .ok (.getfield 27, 3) := by decide +kernel
theorem dX10_deed_143 : decode cX10_deed 143 = .ok (.bipush 6, 2) := by decide +kernel
theorem dX10_deed_145 : decode cX10_deed 145 = .ok (.aload_n 0, 1) := by decide +kernel
theorem dX10_deed_146 : decode cX10_deed 146 = .ok (.getfield 132, 3) := by decide +kernel
theorem dX10_deed_149 : decode cX10_deed 149 = .ok (.imul, 1) := by decide +kernel
theorem dX10_deed_150 : decode cX10_deed 150 = .ok (.iload_n 2, 1) := by decide +kernel
theorem dX10_deed_151 : decode cX10_deed 151 = .ok (.iadd, 1) := by decide +kernel
theorem dX10_deed_152 : decode cX10_deed 152 = .ok (.aload_n 0, 1) := by decide +kernel
theorem dX10_deed_153 : decode cX10_deed 153 = .ok (.iload_n 1, 1) := by decide +kernel
theorem dX10_deed_154 : decode cX10_deed 154 = .ok (.iload_n 2, 1) := by decide +kernel
theorem dX10_deed_155 : decode cX10_deed 155 = .ok (.invokevirtual 125, 3) := by decide +kernel
theorem dX10_deed_158 : decode cX10_deed 158 = .ok (.iastore, 1) := by decide +kernel
theorem dX10_deed_159 : decode cX10_deed 159 = .ok (.aload_n 0, 1) := by decide +kernel
theorem dX10_deed_160 : decode cX10_deed 160 = .ok (.getfield 30, 3) := by decide +kernel
theorem dX10_deed_163 : decode cX10_deed 163 = .ok (.bipush 6, 2) := by decide +kernel
theorem dX10_deed_165 : decode cX10_deed 165 = .ok (.aload_n 0, 1) := by decide +kernel
theorem dX10_deed_166 : decode cX10_deed 166 = .ok (.getfield 132, 3) := by decide +kernel
theorem dX10_deed_169 : decode cX10_deed 169 = .ok (.imul, 1) := by decide +kernel
theorem dX10_deed_170 : decode cX10_deed 170 = .ok (.iload_n 2, 1) := by decide +kernel
theorem dX10_deed_171 : decode cX10_deed 171 = .ok (.iadd, 1) := by decide +kernel
theorem dX10_deed_172 : decode cX10_deed 172 = .ok (.aload_n 0, 1) := by decide +kernel
theorem dX10_deed_173 : decode cX10_deed 173 = .ok (.iload_n 1, 1) := by decide +kernel
theorem dX10_deed_174 : decode cX10_deed 174 = .ok (.iload_n 2, 1) := by decide +kernel
theorem dX10_deed_175 : decode cX10_deed 175 = .ok (.invokevirtual 129, 3) := by decide +kernel
theorem dX10_deed_178 : decode cX10_deed 178 = .ok (.iastore, 1) := by decide +kernel
theorem dX10_deed_179 : decode cX10_deed 179 = .ok (.iinc 2 1, 3) := by decide +kernel
theorem dX10_deed_182 : decode cX10_deed 182 = .ok (.goto (-49), 3) := by decide +kernel
theorem dX10_deed_185 : decode cX10_deed 185 = .ok (.aload_n 0, 1) := by decide +kernel
theorem dX10_deed_186 : decode cX10_deed 186 = .ok (.dup, 1) := by decide +kernel
theorem dX10_deed_187 : decode cX10_deed 187 = .ok (.getfield 132, 3) := by decide +kernel
theorem dX10_deed_190 : decode cX10_deed 190 = .ok (.iconst 1, 1) := by decide +kernel
theorem dX10_deed_191 : decode cX10_deed 191 = .ok (.iadd, 1) := by decide +kernel
theorem dX10_deed_192 : decode cX10_deed 192 = .ok (.putfield 132, 3) := by decide +kernel
theorem dX10_deed_195 : decode cX10_deed 195 = .ok (.return_, 1) := by decide +kernel
theorem dX10_generate_0 : decode cX10_generate 0 = .ok (.iload_n 1, 1) := by decide +kernel
theorem dX10_generate_1 : decode cX10_generate 1 = .ok (.invokestatic 136, 3) := by decide +kernel
theorem dX10_generate_4 : decode cX10_generate 4 = .ok (.ifCond .ne 5, 3) := by decide +kernel
theorem dX10_generate_7 : decode cX10_generate 7 = .ok (.iconst (-1), 1) := by decide +kernel
theorem dX10_generate_8 : decode cX10_generate 8 = .ok (.ireturn, 1) := by decide +kernel
theorem dX10_generate_9 : decode cX10_generate 9 = .ok (.iload_n 2, 1) := by decide +kernel
theorem dX10_generate_10 : decode cX10_generate 10 = .ok (.invokestatic 140, 3) := by decide +kernel
theorem dX10_generate_13 : decode cX10_generate 13 = .ok (.ifCond .eq 10, 3) := by decide +kernel
theorem dX10_generate_16 : decode cX10_generate 16 = .ok (.iload_n 3, 1) := by decide +kernel
theorem dX10_generate_17 : decode cX10_generate 17 = .ok (.invokestatic 140, 3) := by decide +kernel
theorem dX10_generate_20 : decode cX10_generate 20 = .ok (.ifCond .ne 6, 3) := by decide +kernel
theorem dX10_generate_23 : decode cX10_generate 23 = .ok (.bipush (-2), 2) := by decide +kernel
theorem dX10_generate_25 : decode cX10_generate 25 = .ok (.ireturn, 1) := by decide +kernel
theorem dX10_generate_26 : decode cX10_generate 26 = .ok (.aload_n 0, 1) := by decide +kernel
theorem dX10_generate_27 : decode cX10_generate 27 = .ok (.iload_n 1, 1) := by decide +kernel
theorem dX10_generate_28 : decode cX10_generate 28 = .ok (.iload_n 2, 1) := by decide +kernel
theorem dX10_generate_29 : decode cX10_generate 29 = .ok (.iload_n 3, 1) := by decide +kernel
theorem dX10_generate_30 : decode cX10_generate 30 = .ok (.invokevirtual 143, 3) := by decide +kernel
theorem dX10_generate_33 : decode cX10_generate 33 = .ok (.iconst (-1), 1) := by decide +kernel
theorem dX10_generate_34 : decode cX10_generate 34 = .ok (.if_icmp .eq 6, 3) := by decide +kernel
theorem dX10_generate_37 : decode cX10_generate 37 = .ok (.bipush (-3), 2) := by decide +kernel
theorem dX10_generate_39 : decode cX10_generate 39 = .ok (.ireturn, 1) := by decide +kernel
theorem dX10_generate_40 : decode cX10_generate 40 = .ok (.aload_n 0, 1) := by decide +kernel
theorem dX10_generate_41 : decode cX10_generate 41 = .ok (.getfield 11, 3) := by decide +kernel
theorem dX10_generate_44 : decode cX10_generate 44 = .ok (.iload_n 1, 1) := by decide +kernel
theorem dX10_generate_45 : decode cX10_generate 45 = .ok (.iaload, 1) := by decide +kernel
theorem dX10_generate_46 : decode cX10_generate 46 = .ok (.bipush 6, 2) := by decide +kernel
theorem dX10_generate_48 : decode cX10_generate 48 = .ok (.if_icmp .ne 6, 3) := by decide +kernel
theorem dX10_generate_51 : decode cX10_generate 51 = .ok (.bipush (-4), 2) := by decide +kernel
theorem dX10_generate_53 : decode cX10_generate 53 = .ok (.ireturn, 1) := by decide +kernel
theorem dX10_generate_54 : decode cX10_generate 54 = .ok (.aload_n 0, 1) := by decide +kernel
theorem dX10_generate_55 : decode cX10_generate 55 = .ok (.iload_n 1, 1) := by decide +kernel
theorem dX10_generate_56 : decode cX10_generate 56 = .ok (.invokevirtual 147, 3) := by decide +kernel
theorem dX10_generate_59 : decode cX10_generate 59 = .ok (.aload_n 0, 1) := by decide +kernel
theorem dX10_generate_60 : decode cX10_generate 60 = .ok (.iload_n 1, 1) := by decide +kernel
theorem dX10_generate_61 : decode cX10_generate 61 = .ok (.iload_n 2, 1) := by decide +kernel
theorem dX10_generate_62 : decode cX10_generate 62 = .ok (.iload_n 3, 1) := by decide +kernel
theorem dX10_generate_63 : decode cX10_generate 63 = .ok (.invokevirtual 151, 3) := by decide +kernel
theorem dX10_generate_66 : decode cX10_generate 66 = .ok (.aload_n 0, 1) := by decide +kernel
theorem dX10_generate_67 : decode cX10_generate 67 = .ok (.getfield 11, 3) := by decide +kernel
theorem dX10_generate_70 : decode cX10_generate 70 = .ok (.iload_n 1, 1) := by decide +kernel
theorem dX10_generate_71 : decode cX10_generate 71 = .ok (.iaload, 1) := by decide +kernel
theorem dX10_generate_72 : decode cX10_generate 72 = .ok (.ireturn, 1) := by decide +kernel
theorem dX10_isGenerator_0 : decode cX10_isGenerator 0 = .ok (.iload_n 1, 1) := by decide +kernel
theorem dX10_isGenerator_1 : decode cX10_isGenerator 1 = .ok (.invokestatic 136, 3) := by decide +kernel
theorem dX10_isGenerator_4 : decode cX10_isGenerator 4 = .ok (.ifCond .eq 25, 3) := by decide +kernel
theorem dX10_isGenerator_7 : decode cX10_isGenerator 7 = .ok (.iload_n 2, 1) := by decide +kernel
theorem dX10_isGenerator_8 : decode cX10_isGenerator 8 = .ok (.i2l, 1) := by decide +kernel
theorem dX10_isGenerator_9 : decode cX10_isGenerator 9 = .ok (.lconst 0, 1) := by decide +kernel
theorem dX10_isGenerator_10 : decode cX10_isGenerator 10 = .ok (.aload_n 0, 1) := by decide +kernel
theorem dX10_isGenerator_11 : decode cX10_isGenerator 11 = .ok (.getfield 11, 3) := by decide +kernel
theorem dX10_isGenerator_14 : decode cX10_isGenerator 14 = .ok (.iload_n 1, 1) := by decide +kernel
theorem dX10_isGenerator_15 : decode cX10_isGenerator 15 = .ok (.iaload, 1) := by decide +kernel
theorem dX10_isGenerator_16 : decode cX10_isGenerator 16 = .ok (.iconst 1, 1) := by decide +kernel
theorem dX10_isGenerator_17 : decode cX10_isGenerator 17 = .ok (.isub, 1) := by decide +kernel
theorem dX10_isGenerator_18 : decode cX10_isGenerator 18 = .ok (.i2l, 1) := by decide +kernel
theorem dX10_isGenerator_19 : decode cX10_isGenerator 19 = .ok (.invokestatic 115, 3) := by decide +kernel
theorem dX10_isGenerator_22 : decode cX10_isGenerator 22 = .ok (.ifCond .eq 7, 3) := by decide +kernel
theorem dX10_isGenerator_25 : decode cX10_isGenerator 25 = .ok (.iconst 1, 1) := by decide +kernel
theorem dX10_isGenerator_26 : decode cX10_isGenerator 26 = .ok (.goto 4, 3) := by decide +kernel
theorem dX10_isGenerator_29 : decode cX10_isGenerator 29 = .ok (.iconst 0, 1) := by decide +kernel
theorem dX10_isGenerator_30 : decode cX10_isGenerator 30 = .ok (.ireturn, 1) := by decide +kernel
theorem dX10_drop_0 : decode cX10_drop 0 = .ok (.aload_n 0, 1) := by decide +kernel
theorem dX10_drop_1 : decode cX10_drop 1 = .ok (.iload_n 1, 1) := by decide +kernel
theorem dX10_drop_2 : decode cX10_drop 2 = .ok (.iload_n 2, 1) := by decide +kernel
theorem dX10_drop_3 : decode cX10_drop 3 = .ok (.invokevirtual 155, 3) := by decide +kernel
theorem dX10_drop_6 : decode cX10_drop 6 = .ok (.ifCond .ne 5, 3) := by decide +kernel
theorem dX10_drop_9 : decode cX10_drop 9 = .ok (.iconst (-1), 1) := by decide +kernel
theorem dX10_drop_10 : decode cX10_drop 10 = .ok (.ireturn, 1) := by decide +kernel
theorem dX10_drop_11 : decode cX10_drop 11 = .ok (.aload_n 0, 1) := by decide +kernel
theorem dX10_drop_12 : decode cX10_drop 12 = .ok (.iload_n 1, 1) := by decide +kernel
theorem dX10_drop_13 : decode cX10_drop 13 = .ok (.invokevirtual 147, 3) := by decide +kernel
theorem dX10_drop_16 : decode cX10_drop 16 = .ok (.aload_n 0, 1) := by decide +kernel
theorem dX10_drop_17 : decode cX10_drop 17 = .ok (.iload_n 1, 1) := by decide +kernel
theorem dX10_drop_18 : decode cX10_drop 18 = .ok (.iload_n 2, 1) := by decide +kernel
theorem dX10_drop_19 : decode cX10_drop 19 = .ok (.invokevirtual 159, 3) := by decide +kernel
theorem dX10_drop_22 : decode cX10_drop 22 = .ok (.aload_n 0, 1) := by decide +kernel
theorem dX10_drop_23 : decode cX10_drop 23 = .ok (.getfield 11, 3) := by decide +kernel
theorem dX10_drop_26 : decode cX10_drop 26 = .ok (.iload_n 1, 1) := by decide +kernel
theorem dX10_drop_27 : decode cX10_drop 27 = .ok (.iaload, 1) := by decide +kernel
theorem dX10_drop_28 : decode cX10_drop 28 = .ok (.ireturn, 1) := by decide +kernel
theorem dX10_clear_0 : decode cX10_clear 0 = .ok (.iload_n 1, 1) := by decide +kernel
theorem dX10_clear_1 : decode cX10_clear 1 = .ok (.invokestatic 136, 3) := by decide +kernel
theorem dX10_clear_4 : decode cX10_clear 4 = .ok (.ifCond .ne 5, 3) := by decide +kernel
theorem dX10_clear_7 : decode cX10_clear 7 = .ok (.iconst (-1), 1) := by decide +kernel
theorem dX10_clear_8 : decode cX10_clear 8 = .ok (.ireturn, 1) := by decide +kernel
theorem dX10_clear_9 : decode cX10_clear 9 = .ok (.aload_n 0, 1) := by decide +kernel
theorem dX10_clear_10 : decode cX10_clear 10 = .ok (.getfield 11, 3) := by decide +kernel
theorem dX10_clear_13 : decode cX10_clear 13 = .ok (.iload_n 1, 1) := by decide +kernel
theorem dX10_clear_14 : decode cX10_clear 14 = .ok (.iaload, 1) := by decide +kernel
theorem dX10_clear_15 : decode cX10_clear 15 = .ok (.ifCond .ne 6, 3) := by decide +kernel
theorem dX10_clear_18 : decode cX10_clear 18 = .ok (.bipush (-3), 2) := by decide +kernel
theorem dX10_clear_20 : decode cX10_clear 20 = .ok (.ireturn, 1) := by decide +kernel
theorem dX10_clear_21 : decode cX10_clear 21 = .ok (.aload_n 0, 1) := by decide +kernel
theorem dX10_clear_22 : decode cX10_clear 22 = .ok (.iload_n 1, 1) := by decide +kernel
theorem dX10_clear_23 : decode cX10_clear 23 = .ok (.invokevirtual 147, 3) := by decide +kernel
theorem dX10_clear_26 : decode cX10_clear 26 = .ok (.aload_n 0, 1) := by decide +kernel
theorem dX10_clear_27 : decode cX10_clear 27 = .ok (.getfield 11, 3) := by decide +kernel
theorem dX10_clear_30 : decode cX10_clear 30 = .ok (.iload_n 1, 1) := by decide +kernel
theorem dX10_clear_31 : decode cX10_clear 31 = .ok (.iaload, 1) := by decide +kernel
theorem dX10_clear_32 : decode cX10_clear 32 = .ok (.istore_n 2, 1) := by decide +kernel
theorem dX10_clear_33 : decode cX10_clear 33 = .ok (.aload_n 0, 1) := by decide +kernel
theorem dX10_clear_34 : decode cX10_clear 34 = .ok (.getfield 11, 3) := by decide +kernel
theorem dX10_clear_37 : decode cX10_clear 37 = .ok (.iload_n 1, 1) := by decide +kernel
theorem dX10_clear_38 : decode cX10_clear 38 = .ok (.iconst 0, 1) := by decide +kernel
theorem dX10_clear_39 : decode cX10_clear 39 = .ok (.iastore, 1) := by decide +kernel
theorem dX10_clear_40 : decode cX10_clear 40 = .ok (.iload_n 2, 1) := by decide +kernel
theorem dX10_clear_41 : decode cX10_clear 41 = .ok (.ireturn, 1) := by decide +kernel
theorem dX10_merge_0 : decode cX10_merge 0 = .ok (.iload_n 1, 1) := by decide +kernel
theorem dX10_merge_1 : decode cX10_merge 1 = .ok (.invokestatic 136, 3) := by decide +kernel
theorem dX10_merge_4 : decode cX10_merge 4 = .ok (.ifCond .ne 5, 3) := by decide +kernel
theorem dX10_merge_7 : decode cX10_merge 7 = .ok (.iconst (-1), 1) := by decide +kernel
theorem dX10_merge_8 : decode cX10_merge 8 = .ok (.ireturn, 1) := by decide +kernel
theorem dX10_merge_9 : decode cX10_merge 9 = .ok (.iconst 1, 1) := by decide +kernel
theorem dX10_merge_10 : decode cX10_merge 10 = .ok (.iload_n 1, 1) := by decide +kernel
theorem dX10_merge_11 : decode cX10_merge 11 = .ok (.isub, 1) := by decide +kernel
theorem dX10_merge_12 : decode cX10_merge 12 = .ok (.istore_n 2, 1) := by decide +kernel
theorem dX10_merge_13 : decode cX10_merge 13 = .ok (.iconst 0, 1) := by decide +kernel
theorem dX10_merge_14 : decode cX10_merge 14 = .ok (.istore_n 3, 1) := by decide +kernel
theorem dX10_merge_15 : decode cX10_merge 15 = .ok (.iconst 0, 1) := by decide +kernel
theorem dX10_merge_16 : decode cX10_merge 16 = .ok (.istore 4, 2) := by decide +kernel
theorem dX10_merge_18 : decode cX10_merge 18 = .ok (.iload 4, 2) := by decide +kernel
theorem dX10_merge_20 : decode cX10_merge 20 = .ok (.aload_n 0, 1) := by decide +kernel
theorem dX10_merge_21 : decode cX10_merge 21 = .ok (.getfield 11, 3) := by decide +kernel
theorem dX10_merge_24 : decode cX10_merge 24 = .ok (.iload_n 2, 1) := by decide +kernel
theorem dX10_merge_25 : decode cX10_merge 25 = .ok (.iaload, 1) := by decide +kernel
theorem dX10_merge_26 : decode cX10_merge 26 = .ok (.if_icmp .ge 40, 3) := by decide +kernel
theorem dX10_merge_29 : decode cX10_merge 29 = .ok (.iload_n 3, 1) := by decide +kernel
theorem dX10_merge_30 : decode cX10_merge 30 = .ok (.aload_n 0, 1) := by decide +kernel
theorem dX10_merge_31 : decode cX10_merge 31 = .ok (.iload_n 1, 1) := by decide +kernel
theorem dX10_merge_32 : decode cX10_merge 32 = .ok (.aload_n 0, 1) := by decide +kernel
theorem dX10_merge_33 : decode cX10_merge 33 = .ok (.iload_n 2, 1) := by decide +kernel
theorem dX10_merge_34 : decode cX10_merge 34 = .ok (.iload 4, 2) := by decide +kernel
theorem dX10_merge_36 : decode cX10_merge 36 = .ok (.invokevirtual 125, 3) := by decide +kernel
theorem dX10_merge_39 : decode cX10_merge 39 = .ok (.aload_n 0, 1) := by decide +kernel
theorem dX10_merge_40 : decode cX10_merge 40 = .ok (.iload_n 2, 1) := by decide +kernel
theorem dX10_merge_41 : decode cX10_merge 41 = .ok (.iload 4, 2) := by decide +kernel
theorem dX10_merge_43 : decode cX10_merge 43 = .ok (.invokevirtual 129, 3) := by decide +kernel
theorem dX10_merge_46 : decode cX10_merge 46 = .ok (.invokevirtual 143, 3) := by decide +kernel
theorem dX10_merge_49 : decode cX10_merge 49 = .ok (.iconst (-1), 1) := by decide +kernel
theorem dX10_merge_50 : decode cX10_merge 50 = .ok (.if_icmp .ne 7, 3) := by decide +kernel
theorem dX10_merge_53 : decode cX10_merge 53 = .ok (.iconst 1, 1) := by decide +kernel
theorem dX10_merge_54 : decode cX10_merge 54 = .ok (.goto 4, 3) := by decide +kernel
theorem dX10_merge_57 : decode cX10_merge 57 = .ok (.iconst 0, 1) := by decide +kernel
theorem dX10_merge_58 : decode cX10_merge 58 = .ok (.iadd, 1) := by decide +kernel
theorem dX10_merge_59 : decode cX10_merge 59 = .ok (.istore_n 3, 1) := by decide +kernel
theorem dX10_merge_60 : decode cX10_merge 60 = .ok (.iinc 4 1, 3) := by decide +kernel
theorem dX10_merge_63 : decode cX10_merge 63 = .ok (.goto (-45), 3) := by decide +kernel
theorem dX10_merge_66 : decode cX10_merge 66 = .ok (.aload_n 0, 1) := by decide +kernel
theorem dX10_merge_67 : decode cX10_merge 67 = .ok (.getfield 11, 3) := by decide +kernel
theorem dX10_merge_70 : decode cX10_merge 70 = .ok (.iload_n 1, 1) := by decide +kernel
theorem dX10_merge_71 : decode cX10_merge 71 = .ok (.iaload, 1) := by decide +kernel
theorem dX10_merge_72 : decode cX10_merge 72 = .ok (.iload_n 3, 1) := by decide +kernel
theorem dX10_merge_73 : decode cX10_merge 73 = .ok (.iadd, 1) := by decide +kernel
theorem dX10_merge_74 : decode cX10_merge 74 = .ok (.bipush 6, 2) := by decide +kernel
theorem dX10_merge_76 : decode cX10_merge 76 = .ok (.if_icmp .le 6, 3) := by decide +kernel
theorem dX10_merge_79 : decode cX10_merge 79 = .ok (.bipush (-4), 2) := by decide +kernel
theorem dX10_merge_81 : decode cX10_merge 81 = .ok (.ireturn, 1) := by decide +kernel
theorem dX10_merge_82 : decode cX10_merge 82 = .ok (.aload_n 0, 1) := by decide +kernel
theorem dX10_merge_83 : decode cX10_merge 83 = .ok (.iload_n 1, 1) := by decide +kernel
theorem dX10_merge_84 : decode cX10_merge 84 = .ok (.invokevirtual 147, 3) := by decide +kernel
theorem dX10_merge_87 : decode cX10_merge 87 = .ok (.iconst 0, 1) := by decide +kernel
theorem dX10_merge_88 : decode cX10_merge 88 = .ok (.istore 4, 2) := by decide +kernel
theorem dX10_merge_90 : decode cX10_merge 90 = .ok (.iload 4, 2) := by decide +kernel
theorem dX10_merge_92 : decode cX10_merge 92 = .ok (.aload_n 0, 1) := by decide +kernel
theorem dX10_merge_93 : decode cX10_merge 93 = .ok (.getfield 11, 3) := by decide +kernel
theorem dX10_merge_96 : decode cX10_merge 96 = .ok (.iload_n 2, 1) := by decide +kernel
theorem dX10_merge_97 : decode cX10_merge 97 = .ok (.iaload, 1) := by decide +kernel
theorem dX10_merge_98 : decode cX10_merge 98 = .ok (.if_icmp .ge 51, 3) := by decide +kernel
theorem dX10_merge_101 : decode cX10_merge 101 = .ok (.aload_n 0, 1) := by decide +kernel
theorem dX10_merge_102 : decode cX10_merge 102 = .ok (.iload_n 1, 1) := by decide +kernel
theorem dX10_merge_103 : decode cX10_merge 103 = .ok (.aload_n 0, 1) := by decide +kernel
theorem dX10_merge_104 : decode cX10_merge 104 = .ok (.iload_n 2, 1) := by decide +kernel
theorem dX10_merge_105 : decode cX10_merge 105 = .ok (.iload 4, 2) := by decide +kernel
theorem dX10_merge_107 : decode cX10_merge 107 = .ok (.invokevirtual 125, 3) := by decide +kernel
theorem dX10_merge_110 : decode cX10_merge 110 = .ok (.aload_n 0, 1) := by decide +kernel
theorem dX10_merge_111 : decode cX10_merge 111 = .ok (.iload_n 2, 1) := by decide +kernel
theorem dX10_merge_112 : decode cX10_merge 112 = .ok (.iload 4, 2) := by decide +kernel
theorem dX10_merge_114 : decode cX10_merge 114 = .ok (.invokevirtual 129, 3) := by decide +kernel
theorem dX10_merge_117 : decode cX10_merge 117 = .ok (.invokevirtual 143, 3) := by decide +kernel
theorem dX10_merge_120 : decode cX10_merge 120 = .ok (.iconst (-1), 1) := by decide +kernel
theorem dX10_merge_121 : decode cX10_merge 121 = .ok (.if_icmp .ne 22, 3) := by decide +kernel
theorem dX10_merge_124 : decode cX10_merge 124 = .ok (.aload_n 0, 1) := by decide +kernel
theorem dX10_merge_125 : decode cX10_merge 125 = .ok (.iload_n 1, 1) := by decide +kernel
theorem dX10_merge_126 : decode cX10_merge 126 = .ok (.aload_n 0, 1) := by decide +kernel
theorem dX10_merge_127 : decode cX10_merge 127 = .ok (.iload_n 2, 1) := by decide +kernel
theorem dX10_merge_128 : decode cX10_merge 128 = .ok (.iload 4, 2) := by decide +kernel
theorem dX10_merge_130 : decode cX10_merge 130 = .ok (.invokevirtual 125, 3) := by decide +kernel
theorem dX10_merge_133 : decode cX10_merge 133 = .ok (.aload_n 0, 1) := by decide +kernel
theorem dX10_merge_134 : decode cX10_merge 134 = .ok (.iload_n 2, 1) := by decide +kernel
theorem dX10_merge_135 : decode cX10_merge 135 = .ok (.iload 4, 2) := by decide +kernel
theorem dX10_merge_137 : decode cX10_merge 137 = .ok (.invokevirtual 129, 3) := by decide +kernel
theorem dX10_merge_140 : decode cX10_merge 140 = .ok (.invokevirtual 151, 3) := by decide +kernel
theorem dX10_merge_143 : decode cX10_merge 143 = .ok (.iinc 4 1, 3) := by decide +kernel
theorem dX10_merge_146 : decode cX10_merge 146 = .ok (.goto (-56), 3) := by decide +kernel
theorem dX10_merge_149 : decode cX10_merge 149 = .ok (.aload_n 0, 1) := by decide +kernel
theorem dX10_merge_150 : decode cX10_merge 150 = .ok (.getfield 11, 3) := by decide +kernel
theorem dX10_merge_153 : decode cX10_merge 153 = .ok (.iload_n 1, 1) := by decide +kernel
theorem dX10_merge_154 : decode cX10_merge 154 = .ok (.iaload, 1) := by decide +kernel
theorem dX10_merge_155 : decode cX10_merge 155 = .ok (.ireturn, 1) := by decide +kernel
theorem dX10_isCorner_0 : decode cX10_isCorner 0 = .ok (.aload_n 0, 1) := by decide +kernel
theorem dX10_isCorner_1 : decode cX10_isCorner 1 = .ok (.iload_n 1, 1) := by decide +kernel
theorem dX10_isCorner_2 : decode cX10_isCorner 2 = .ok (.iload_n 2, 1) := by decide +kernel
theorem dX10_isCorner_3 : decode cX10_isCorner 3 = .ok (.invokevirtual 163, 3) := by decide +kernel
theorem dX10_isCorner_6 : decode cX10_isCorner 6 = .ok (.ifCond .eq 37, 3) := by decide +kernel
theorem dX10_isCorner_9 : decode cX10_isCorner 9 = .ok (.iload_n 1, 1) := by decide +kernel
theorem dX10_isCorner_10 : decode cX10_isCorner 10 = .ok (.ifCond .eq 14, 3) := by decide +kernel
theorem dX10_isCorner_13 : decode cX10_isCorner 13 = .ok (.aload_n 0, 1) := by decide +kernel
end
section
theorem dX10_isCorner_14 : decode cX10_isCorner 14 = .ok (.iload_n 1, 1) := by decide +kernel
theorem dX10_isCorner_15 : decode cX10_isCorner 15 = .ok (.iconst 1, 1) := by decide +kernel
theorem dX10_isCorner_16 : decode cX10_isCorner 16 = .ok (.isub, 1) := by decide +kernel
theorem dX10_isCorner_17 : decode cX10_isCorner 17 = .ok (.iload_n 2, 1) := by decide +kernel
theorem dX10_isCorner_18 : decode cX10_isCorner 18 = .ok (.invokevirtual 163, 3) := by decide +kernel
theorem dX10_isCorner_21 : decode cX10_isCorner 21 = .ok (.ifCond .ne 22, 3) := by decide +kernel
theorem dX10_isCorner_24 : decode cX10_isCorner 24 = .ok (.iload_n 2, 1) := by decide +kernel
theorem dX10_isCorner_25 : decode cX10_isCorner 25 = .ok (.ifCond .eq 14, 3) := by decide +kernel
theorem dX10_isCorner_28 : decode cX10_isCorner 28 = .ok (.aload_n 0, 1) := by decide +kernel
theorem dX10_isCorner_29 : decode cX10_isCorner 29 = .ok (.iload_n 1, 1) := by decide +kernel
theorem dX10_isCorner_30 : decode cX10_isCorner 30 = .ok (.iload_n 2, 1) := by decide +kernel
theorem dX10_isCorner_31 : decode cX10_isCorner 31 = .ok (.iconst 1, 1) := by decide +kernel
theorem dX10_isCorner_32 : decode cX10_isCorner 32 = .ok (.isub, 1) := by decide +kernel
theorem dX10_isCorner_33 : decode cX10_isCorner 33 = .ok (.invokevirtual 163, 3) := by decide +kernel
theorem dX10_isCorner_36 : decode cX10_isCorner 36 = .ok (.ifCond .ne 7, 3) := by decide +kernel
theorem dX10_isCorner_39 : decode cX10_isCorner 39 = .ok (.iconst 1, 1) := by decide +kernel
theorem dX10_isCorner_40 : decode cX10_isCorner 40 = .ok (.goto 4, 3) := by decide +kernel
theorem dX10_isCorner_43 : decode cX10_isCorner 43 = .ok (.iconst 0, 1) := by decide +kernel
theorem dX10_isCorner_44 : decode cX10_isCorner 44 = .ok (.ireturn, 1) := by decide +kernel
theorem dX10_close_0 : decode cX10_close 0 = .ok (.iload_n 1, 1) := by decide +kernel
theorem dX10_close_1 : decode cX10_close 1 = .ok (.invokestatic 136, 3) := by decide +kernel
theorem dX10_close_4 : decode cX10_close 4 = .ok (.ifCond .ne 5, 3) := by decide +kernel
theorem dX10_close_7 : decode cX10_close 7 = .ok (.iconst (-1), 1) := by decide +kernel
theorem dX10_close_8 : decode cX10_close 8 = .ok (.ireturn, 1) := by decide +kernel
theorem dX10_close_9 : decode cX10_close 9 = .ok (.aload_n 0, 1) := by decide +kernel
theorem dX10_close_10 : decode cX10_close 10 = .ok (.getfield 11, 3) := by decide +kernel
theorem dX10_close_13 : decode cX10_close 13 = .ok (.iload_n 1, 1) := by decide +kernel
theorem dX10_close_14 : decode cX10_close 14 = .ok (.iaload, 1) := by decide +kernel
theorem dX10_close_15 : decode cX10_close 15 = .ok (.ifCond .ne 6, 3) := by decide +kernel
theorem dX10_close_18 : decode cX10_close 18 = .ok (.bipush (-3), 2) := by decide +kernel
theorem dX10_close_20 : decode cX10_close 20 = .ok (.ireturn, 1) := by decide +kernel
theorem dX10_close_21 : decode cX10_close 21 = .ok (.aload_n 0, 1) := by decide +kernel
theorem dX10_close_22 : decode cX10_close 22 = .ok (.iload_n 1, 1) := by decide +kernel
theorem dX10_close_23 : decode cX10_close 23 = .ok (.invokevirtual 166, 3) := by decide +kernel
theorem dX10_close_26 : decode cX10_close 26 = .ok (.iconst 0, 1) := by decide +kernel
theorem dX10_close_27 : decode cX10_close 27 = .ok (.istore_n 2, 1) := by decide +kernel
theorem dX10_close_28 : decode cX10_close 28 = .ok (.iconst 0, 1) := by decide +kernel
theorem dX10_close_29 : decode cX10_close 29 = .ok (.istore_n 3, 1) := by decide +kernel
theorem dX10_close_30 : decode cX10_close 30 = .ok (.iload_n 3, 1) := by decide +kernel
theorem dX10_close_31 : decode cX10_close 31 = .ok (.bipush 100, 2) := by decide +kernel
theorem dX10_close_33 : decode cX10_close 33 = .ok (.if_icmp .ge 32, 3) := by decide +kernel
theorem dX10_close_36 : decode cX10_close 36 = .ok (.iload_n 2, 1) := by decide +kernel
theorem dX10_close_37 : decode cX10_close 37 = .ok (.aload_n 0, 1) := by decide +kernel
theorem dX10_close_38 : decode cX10_close 38 = .ok (.iload_n 3, 1) := by decide +kernel
theorem dX10_close_39 : decode cX10_close 39 = .ok (.bipush 10, 2) := by decide +kernel
theorem dX10_close_41 : decode cX10_close 41 = .ok (.idiv, 1) := by decide +kernel
theorem dX10_close_42 : decode cX10_close 42 = .ok (.iload_n 3, 1) := by decide +kernel
theorem dX10_close_43 : decode cX10_close 43 = .ok (.bipush 10, 2) := by decide +kernel
theorem dX10_close_45 : decode cX10_close 45 = .ok (.irem, 1) := by decide +kernel
theorem dX10_close_46 : decode cX10_close 46 = .ok (.invokevirtual 169, 3) := by decide +kernel
theorem dX10_close_49 : decode cX10_close 49 = .ok (.ifCond .eq 7, 3) := by decide +kernel
theorem dX10_close_52 : decode cX10_close 52 = .ok (.iconst 1, 1) := by decide +kernel
theorem dX10_close_53 : decode cX10_close 53 = .ok (.goto 4, 3) := by decide +kernel
theorem dX10_close_56 : decode cX10_close 56 = .ok (.iconst 0, 1) := by decide +kernel
theorem dX10_close_57 : decode cX10_close 57 = .ok (.iadd, 1) := by decide +kernel
theorem dX10_close_58 : decode cX10_close 58 = .ok (.istore_n 2, 1) := by decide +kernel
theorem dX10_close_59 : decode cX10_close 59 = .ok (.iinc 3 1, 3) := by decide +kernel
theorem dX10_close_62 : decode cX10_close 62 = .ok (.goto (-32), 3) := by decide +kernel
theorem dX10_close_65 : decode cX10_close 65 = .ok (.iload_n 2, 1) := by decide +kernel
theorem dX10_close_66 : decode cX10_close 66 = .ok (.bipush 6, 2) := by decide +kernel
theorem dX10_close_68 : decode cX10_close 68 = .ok (.if_icmp .le 6, 3) := by decide +kernel
theorem dX10_close_71 : decode cX10_close 71 = .ok (.bipush (-4), 2) := by decide +kernel
theorem dX10_close_73 : decode cX10_close 73 = .ok (.ireturn, 1) := by decide +kernel
theorem dX10_close_74 : decode cX10_close 74 = .ok (.aload_n 0, 1) := by decide +kernel
theorem dX10_close_75 : decode cX10_close 75 = .ok (.iload_n 1, 1) := by decide +kernel
theorem dX10_close_76 : decode cX10_close 76 = .ok (.invokevirtual 147, 3) := by decide +kernel
theorem dX10_close_79 : decode cX10_close 79 = .ok (.aload_n 0, 1) := by decide +kernel
theorem dX10_close_80 : decode cX10_close 80 = .ok (.getfield 11, 3) := by decide +kernel
theorem dX10_close_83 : decode cX10_close 83 = .ok (.iload_n 1, 1) := by decide +kernel
theorem dX10_close_84 : decode cX10_close 84 = .ok (.iconst 0, 1) := by decide +kernel
theorem dX10_close_85 : decode cX10_close 85 = .ok (.iastore, 1) := by decide +kernel
theorem dX10_close_86 : decode cX10_close 86 = .ok (.iconst 0, 1) := by decide +kernel
theorem dX10_close_87 : decode cX10_close 87 = .ok (.istore_n 3, 1) := by decide +kernel
theorem dX10_close_88 : decode cX10_close 88 = .ok (.iload_n 3, 1) := by decide +kernel
theorem dX10_close_89 : decode cX10_close 89 = .ok (.bipush 100, 2) := by decide +kernel
theorem dX10_close_91 : decode cX10_close 91 = .ok (.if_icmp .ge 37, 3) := by decide +kernel
theorem dX10_close_94 : decode cX10_close 94 = .ok (.aload_n 0, 1) := by decide +kernel
theorem dX10_close_95 : decode cX10_close 95 = .ok (.iload_n 3, 1) := by decide +kernel
theorem dX10_close_96 : decode cX10_close 96 = .ok (.bipush 10, 2) := by decide +kernel
theorem dX10_close_98 : decode cX10_close 98 = .ok (.idiv, 1) := by decide +kernel
theorem dX10_close_99 : decode cX10_close 99 = .ok (.iload_n 3, 1) := by decide +kernel
theorem dX10_close_100 : decode cX10_close 100 = .ok (.bipush 10, 2) := by decide +kernel
theorem dX10_close_102 : decode cX10_close 102 = .ok (.irem, 1) := by decide +kernel
theorem dX10_close_103 : decode cX10_close 103 = .ok (.invokevirtual 169, 3) := by decide +kernel
theorem dX10_close_106 : decode cX10_close 106 = .ok (.ifCond .eq 16, 3) := by decide +kernel
theorem dX10_close_109 : decode cX10_close 109 = .ok (.aload_n 0, 1) := by decide +kernel
theorem dX10_close_110 : decode cX10_close 110 = .ok (.iload_n 1, 1) := by decide +kernel
theorem dX10_close_111 : decode cX10_close 111 = .ok (.iload_n 3, 1) := by decide +kernel
theorem dX10_close_112 : decode cX10_close 112 = .ok (.bipush 10, 2) := by decide +kernel
theorem dX10_close_114 : decode cX10_close 114 = .ok (.idiv, 1) := by decide +kernel
theorem dX10_close_115 : decode cX10_close 115 = .ok (.iload_n 3, 1) := by decide +kernel
theorem dX10_close_116 : decode cX10_close 116 = .ok (.bipush 10, 2) := by decide +kernel
theorem dX10_close_118 : decode cX10_close 118 = .ok (.irem, 1) := by decide +kernel
theorem dX10_close_119 : decode cX10_close 119 = .ok (.invokevirtual 151, 3) := by decide +kernel
theorem dX10_close_122 : decode cX10_close 122 = .ok (.iinc 3 1, 3) := by decide +kernel
theorem dX10_close_125 : decode cX10_close 125 = .ok (.goto (-37), 3) := by decide +kernel
theorem dX10_close_128 : decode cX10_close 128 = .ok (.aload_n 0, 1) := by decide +kernel
theorem dX10_close_129 : decode cX10_close 129 = .ok (.getfield 11, 3) := by decide +kernel
theorem dX10_close_132 : decode cX10_close 132 = .ok (.iload_n 1, 1) := by decide +kernel
theorem dX10_close_133 : decode cX10_close 133 = .ok (.iaload, 1) := by decide +kernel
theorem dX10_close_134 : decode cX10_close 134 = .ok (.ireturn, 1) := by decide +kernel
theorem dX10_back_0 : decode cX10_back 0 = .ok (.aload_n 0, 1) := by decide +kernel
theorem dX10_back_1 : decode cX10_back 1 = .ok (.getfield 132, 3) := by decide +kernel
theorem dX10_back_4 : decode cX10_back 4 = .ok (.ifCond .ne 6, 3) := by decide +kernel
theorem dX10_back_7 : decode cX10_back 7 = .ok (.bipush (-3), 2) := by decide +kernel
theorem dX10_back_9 : decode cX10_back 9 = .ok (.ireturn, 1) := by decide +kernel
theorem dX10_back_10 : decode cX10_back 10 = .ok (.aload_n 0, 1) := by decide +kernel
theorem dX10_back_11 : decode cX10_back 11 = .ok (.dup, 1) := by decide +kernel
theorem dX10_back_12 : decode cX10_back 12 = .ok (.getfield 132, 3) := by decide +kernel
theorem dX10_back_15 : decode cX10_back 15 = .ok (.iconst 1, 1) := by decide +kernel
theorem dX10_back_16 : decode cX10_back 16 = .ok (.isub, 1) := by decide +kernel
theorem dX10_back_17 : decode cX10_back 17 = .ok (.putfield 132, 3) := by decide +kernel
theorem dX10_back_20 : decode cX10_back 20 = .ok (.aload_n 0, 1) := by decide +kernel
theorem dX10_back_21 : decode cX10_back 21 = .ok (.getfield 21, 3) := by decide +kernel
theorem dX10_back_24 : decode cX10_back 24 = .ok (.aload_n 0, 1) := by decide +kernel
theorem dX10_back_25 : decode cX10_back 25 = .ok (.getfield 132, 3) := by decide +kernel
theorem dX10_back_28 : decode cX10_back 28 = .ok (.iaload, 1) := by decide +kernel
theorem dX10_back_29 : decode cX10_back 29 = .ok (.istore_n 1, 1) := by decide +kernel
theorem dX10_back_30 : decode cX10_back 30 = .ok (.aload_n 0, 1) := by decide +kernel
theorem dX10_back_31 : decode cX10_back 31 = .ok (.getfield 11, 3) := by decide +kernel
theorem dX10_back_34 : decode cX10_back 34 = .ok (.iload_n 1, 1) := by decide +kernel
theorem dX10_back_35 : decode cX10_back 35 = .ok (.aload_n 0, 1) := by decide +kernel
theorem dX10_back_36 : decode cX10_back 36 = .ok (.getfield 24, 3) := by decide +kernel
theorem dX10_back_39 : decode cX10_back 39 = .ok (.aload_n 0, 1) := by decide +kernel
theorem dX10_back_40 : decode cX10_back 40 = .ok (.getfield 132, 3) := by decide +kernel
theorem dX10_back_43 : decode cX10_back 43 = .ok (.iaload, 1) := by decide +kernel
theorem dX10_back_44 : decode cX10_back 44 = .ok (.iastore, 1) := by decide +kernel
theorem dX10_back_45 : decode cX10_back 45 = .ok (.iconst 0, 1) := by decide +kernel
theorem dX10_back_46 : decode cX10_back 46 = .ok (.istore_n 2, 1) := by decide +kernel
theorem dX10_back_47 : decode cX10_back 47 = .ok (.iload_n 2, 1) := by decide +kernel
theorem dX10_back_48 : decode cX10_back 48 = .ok (.bipush 6, 2) := by decide +kernel
theorem dX10_back_50 : decode cX10_back 50 = .ok (.if_icmp .ge 59, 3) := by decide +kernel
theorem dX10_back_53 : decode cX10_back 53 = .ok (.aload_n 0, 1) := by decide +kernel
theorem dX10_back_54 : decode cX10_back 54 = .ok (.getfield 15, 3) := by decide +kernel
theorem dX10_back_57 : decode cX10_back 57 = .ok (.bipush 6, 2) := by decide +kernel
theorem dX10_back_59 : decode cX10_back 59 = .ok (.iload_n 1, 1) := by decide +kernel
theorem dX10_back_60 : decode cX10_back 60 = .ok (.imul, 1) := by decide +kernel
theorem dX10_back_61 : decode cX10_back 61 = .ok (.iload_n 2, 1) := by decide +kernel
theorem dX10_back_62 : decode cX10_back 62 = .ok (.iadd, 1) := by decide +kernel
theorem dX10_back_63 : decode cX10_back 63 = .ok (.aload_n 0, 1) := by decide +kernel
theorem dX10_back_64 : decode cX10_back 64 = .ok (.getfield 27, 3) := by decide +kernel
theorem dX10_back_67 : decode cX10_back 67 = .ok (.bipush 6, 2) := by decide +kernel
theorem dX10_back_69 : decode cX10_back 69 = .ok (.aload_n 0, 1) := by decide +kernel
theorem dX10_back_70 : decode cX10_back 70 = .ok (.getfield 132, 3) := by decide +kernel
theorem dX10_back_73 : decode cX10_back 73 = .ok (.imul, 1) := by decide +kernel
theorem dX10_back_74 : decode cX10_back 74 = .ok (.iload_n 2, 1) := by decide +kernel
theorem dX10_back_75 : decode cX10_back 75 = .ok (.iadd, 1) := by decide +kernel
theorem dX10_back_76 : decode cX10_back 76 = .ok (.iaload, 1) := by decide +kernel
theorem dX10_back_77 : decode cX10_back 77 = .ok (.iastore, 1) := by decide +kernel
theorem dX10_back_78 : decode cX10_back 78 = .ok (.aload_n 0, 1) := by decide +kernel
theorem dX10_back_79 : decode cX10_back 79 = .ok (.getfield 18, 3) := by decide +kernel
theorem dX10_back_82 : decode cX10_back 82 = .ok (.bipush 6, 2) := by decide +kernel
theorem dX10_back_84 : decode cX10_back 84 = .ok (.iload_n 1, 1) := by decide +kernel
theorem dX10_back_85 : decode cX10_back 85 = .ok (.imul, 1) := by decide +kernel
theorem dX10_back_86 : decode cX10_back 86 = .ok (.iload_n 2, 1) := by decide +kernel
theorem dX10_back_87 : decode cX10_back 87 = .ok (.iadd, 1) := by decide +kernel
theorem dX10_back_88 : decode cX10_back 88 = .ok (.aload_n 0, 1) := by decide +kernel
theorem dX10_back_89 : decode cX10_back 89 = .ok (.getfield 30, 3) := by decide +kernel
theorem dX10_back_92 : decode cX10_back 92 = .ok (.bipush 6, 2) := by decide +kernel
theorem dX10_back_94 : decode cX10_back 94 = .ok (.aload_n 0, 1) := by decide +kernel
theorem dX10_back_95 : decode cX10_back 95 = .ok (.getfield 132, 3) := by decide +kernel
theorem dX10_back_98 : decode cX10_back 98 = .ok (.imul, 1) := by decide +kernel
theorem dX10_back_99 : decode cX10_back 99 = .ok (.iload_n 2, 1) := by decide +kernel
theorem dX10_back_100 : decode cX10_back 100 = .ok (.iadd, 1) := by decide +kernel
theorem dX10_back_101 : decode cX10_back 101 = .ok (.iaload, 1) := by decide +kernel
theorem dX10_back_102 : decode cX10_back 102 = .ok (.iastore, 1) := by decide +kernel
theorem dX10_back_103 : decode cX10_back 103 = .ok (.iinc 2 1, 3) := by decide +kernel
theorem dX10_back_106 : decode cX10_back 106 = .ok (.goto (-59), 3) := by decide +kernel
theorem dX10_back_109 : decode cX10_back 109 = .ok (.aload_n 0, 1) := by decide +kernel
theorem dX10_back_110 : decode cX10_back 110 = .ok (.getfield 132, 3) := by decide +kernel
theorem dX10_back_113 : decode cX10_back 113 = .ok (.ireturn, 1) := by decide +kernel
theorem dX10_feed_0 : decode cX10_feed 0 = .ok (.iload_n 1, 1) := by decide +kernel
theorem dX10_feed_1 : decode cX10_feed 1 = .ok (.i2l, 1) := by decide +kernel
theorem dX10_feed_2 : decode cX10_feed 2 = .ok (.lconst 0, 1) := by decide +kernel
theorem dX10_feed_3 : decode cX10_feed 3 = .ok (.ldc2_w 172, 3) := by decide +kernel
theorem dX10_feed_6 : decode cX10_feed 6 = .ok (.invokestatic 115, 3) := by decide +kernel
theorem dX10_feed_9 : decode cX10_feed 9 = .ok (.ifCond .ne 6, 3) := by decide +kernel
theorem dX10_feed_12 : decode cX10_feed 12 = .ok (.bipush (-2), 2) := by decide +kernel
theorem dX10_feed_14 : decode cX10_feed 14 = .ok (.ireturn, 1) := by decide +kernel
theorem dX10_feed_15 : decode cX10_feed 15 = .ok (.aload_n 0, 1) := by decide +kernel
theorem dX10_feed_16 : decode cX10_feed 16 = .ok (.getfield 174, 3) := by decide +kernel
theorem dX10_feed_19 : decode cX10_feed 19 = .ok (.bipush 100, 2) := by decide +kernel
theorem dX10_feed_21 : decode cX10_feed 21 = .ok (.if_icmp .ne 6, 3) := by decide +kernel
theorem dX10_feed_24 : decode cX10_feed 24 = .ok (.bipush (-4), 2) := by decide +kernel
theorem dX10_feed_26 : decode cX10_feed 26 = .ok (.ireturn, 1) := by decide +kernel
theorem dX10_feed_27 : decode cX10_feed 27 = .ok (.aload_n 0, 1) := by decide +kernel
theorem dX10_feed_28 : decode cX10_feed 28 = .ok (.getfield 33, 3) := by decide +kernel
theorem dX10_feed_31 : decode cX10_feed 31 = .ok (.aload_n 0, 1) := by decide +kernel
theorem dX10_feed_32 : decode cX10_feed 32 = .ok (.getfield 174, 3) := by decide +kernel
theorem dX10_feed_35 : decode cX10_feed 35 = .ok (.iload_n 1, 1) := by decide +kernel
theorem dX10_feed_36 : decode cX10_feed 36 = .ok (.iastore, 1) := by decide +kernel
theorem dX10_feed_37 : decode cX10_feed 37 = .ok (.aload_n 0, 1) := by decide +kernel
theorem dX10_feed_38 : decode cX10_feed 38 = .ok (.dup, 1) := by decide +kernel
theorem dX10_feed_39 : decode cX10_feed 39 = .ok (.getfield 174, 3) := by decide +kernel
theorem dX10_feed_42 : decode cX10_feed 42 = .ok (.iconst 1, 1) := by decide +kernel
theorem dX10_feed_43 : decode cX10_feed 43 = .ok (.iadd, 1) := by decide +kernel
theorem dX10_feed_44 : decode cX10_feed 44 = .ok (.putfield 174, 3) := by decide +kernel
theorem dX10_feed_47 : decode cX10_feed 47 = .ok (.aload_n 0, 1) := by decide +kernel
theorem dX10_feed_48 : decode cX10_feed 48 = .ok (.getfield 174, 3) := by decide +kernel
theorem dX10_feed_51 : decode cX10_feed 51 = .ok (.ireturn, 1) := by decide +kernel
theorem dX10_digitsOf_0 : decode cX10_digitsOf 0 = .ok (.iload_n 0, 1) := by decide +kernel
theorem dX10_digitsOf_1 : decode cX10_digitsOf 1 = .ok (.lookupswitch 67 #[(43, 59), (45, 61), (99, 63), (109, 63), (117, 65), (122, 63)], 59) := by decide +kernel
theorem dX10_digitsOf_60 : decode cX10_digitsOf 60 = .ok (.iconst 3, 1) := by decide +kernel
theorem dX10_digitsOf_61 : decode cX10_digitsOf 61 = .ok (.ireturn, 1) := by decide +kernel
theorem dX10_digitsOf_62 : decode cX10_digitsOf 62 = .ok (.iconst 2, 1) := by decide +kernel
theorem dX10_digitsOf_63 : decode cX10_digitsOf 63 = .ok (.ireturn, 1) := by decide +kernel
theorem dX10_digitsOf_64 : decode cX10_digitsOf 64 = .ok (.iconst 1, 1) := by decide +kernel
theorem dX10_digitsOf_65 : decode cX10_digitsOf 65 = .ok (.ireturn, 1) := by decide +kernel
theorem dX10_digitsOf_66 : decode cX10_digitsOf 66 = .ok (.iconst 0, 1) := by decide +kernel
theorem dX10_digitsOf_67 : decode cX10_digitsOf 67 = .ok (.ireturn, 1) := by decide +kernel
theorem dX10_digitsOf_68 : decode cX10_digitsOf 68 = .ok (.iconst (-1), 1) := by decide +kernel
theorem dX10_digitsOf_69 : decode cX10_digitsOf 69 = .ok (.ireturn, 1) := by decide +kernel
theorem dX10_clause_0 : decode cX10_clause 0 = .ok (.aload_n 0, 1) := by decide +kernel
theorem dX10_clause_1 : decode cX10_clause 1 = .ok (.getfield 177, 3) := by decide +kernel
theorem dX10_clause_4 : decode cX10_clause 4 = .ok (.aload_n 0, 1) := by decide +kernel
theorem dX10_clause_5 : decode cX10_clause 5 = .ok (.getfield 174, 3) := by decide +kernel
theorem dX10_clause_8 : decode cX10_clause 8 = .ok (.if_icmp .ge 15, 3) := by decide +kernel
theorem dX10_clause_11 : decode cX10_clause 11 = .ok (.aload_n 0, 1) := by decide +kernel
theorem dX10_clause_12 : decode cX10_clause 12 = .ok (.getfield 33, 3) := by decide +kernel
theorem dX10_clause_15 : decode cX10_clause 15 = .ok (.aload_n 0, 1) := by decide +kernel
theorem dX10_clause_16 : decode cX10_clause 16 = .ok (.getfield 177, 3) := by decide +kernel
theorem dX10_clause_19 : decode cX10_clause 19 = .ok (.iaload, 1) := by decide +kernel
theorem dX10_clause_20 : decode cX10_clause 20 = .ok (.goto 4, 3) := by decide +kernel
theorem dX10_clause_23 : decode cX10_clause 23 = .ok (.iconst (-1), 1) := by decide +kernel
theorem dX10_clause_24 : decode cX10_clause 24 = .ok (.istore_n 1, 1) := by decide +kernel
theorem dX10_clause_25 : decode cX10_clause 25 = .ok (.iload_n 1, 1) := by decide +kernel
theorem dX10_clause_26 : decode cX10_clause 26 = .ok (.invokestatic 180, 3) := by decide +kernel
theorem dX10_clause_29 : decode cX10_clause 29 = .ok (.istore_n 2, 1) := by decide +kernel
theorem dX10_clause_30 : decode cX10_clause 30 = .ok (.iload_n 2, 1) := by decide +kernel
theorem dX10_clause_31 : decode cX10_clause 31 = .ok (.iconst (-1), 1) := by decide +kernel
theorem dX10_clause_32 : decode cX10_clause 32 = .ok (.if_icmp .ne 5, 3) := by decide +kernel
theorem dX10_clause_35 : decode cX10_clause 35 = .ok (.iconst (-1), 1) := by decide +kernel
theorem dX10_clause_36 : decode cX10_clause 36 = .ok (.ireturn, 1) := by decide +kernel
theorem dX10_clause_37 : decode cX10_clause 37 = .ok (.aload_n 0, 1) := by decide +kernel
theorem dX10_clause_38 : decode cX10_clause 38 = .ok (.dup, 1) := by decide +kernel
theorem dX10_clause_39 : decode cX10_clause 39 = .ok (.getfield 177, 3) := by decide +kernel
theorem dX10_clause_42 : decode cX10_clause 42 = .ok (.iconst 1, 1) := by decide +kernel
theorem dX10_clause_43 : decode cX10_clause 43 = .ok (.iadd, 1) := by decide +kernel
theorem dX10_clause_44 : decode cX10_clause 44 = .ok (.putfield 177, 3) := by decide +kernel
theorem dX10_clause_47 : decode cX10_clause 47 = .ok (.iconst 0, 1) := by decide +kernel
theorem dX10_clause_48 : decode cX10_clause 48 = .ok (.istore_n 3, 1) := by decide +kernel
theorem dX10_clause_49 : decode cX10_clause 49 = .ok (.iload_n 3, 1) := by decide +kernel
theorem dX10_clause_50 : decode cX10_clause 50 = .ok (.iload_n 2, 1) := by decide +kernel
theorem dX10_clause_51 : decode cX10_clause 51 = .ok (.if_icmp .ge 72, 3) := by decide +kernel
theorem dX10_clause_54 : decode cX10_clause 54 = .ok (.aload_n 0, 1) := by decide +kernel
theorem dX10_clause_55 : decode cX10_clause 55 = .ok (.getfield 177, 3) := by decide +kernel
theorem dX10_clause_58 : decode cX10_clause 58 = .ok (.aload_n 0, 1) := by decide +kernel
theorem dX10_clause_59 : decode cX10_clause 59 = .ok (.getfield 174, 3) := by decide +kernel
theorem dX10_clause_62 : decode cX10_clause 62 = .ok (.if_icmp .eq 25, 3) := by decide +kernel
theorem dX10_clause_65 : decode cX10_clause 65 = .ok (.aload_n 0, 1) := by decide +kernel
theorem dX10_clause_66 : decode cX10_clause 66 = .ok (.getfield 33, 3) := by decide +kernel
theorem dX10_clause_69 : decode cX10_clause 69 = .ok (.aload_n 0, 1) := by decide +kernel
theorem dX10_clause_70 : decode cX10_clause 70 = .ok (.getfield 177, 3) := by decide +kernel
theorem dX10_clause_73 : decode cX10_clause 73 = .ok (.iaload, 1) := by decide +kernel
theorem dX10_clause_74 : decode cX10_clause 74 = .ok (.i2l, 1) := by decide +kernel
theorem dX10_clause_75 : decode cX10_clause 75 = .ok (.ldc2_w 184, 3) := by decide +kernel
theorem dX10_clause_78 : decode cX10_clause 78 = .ok (.ldc2_w 186, 3) := by decide +kernel
theorem dX10_clause_81 : decode cX10_clause 81 = .ok (.invokestatic 115, 3) := by decide +kernel
theorem dX10_clause_84 : decode cX10_clause 84 = .ok (.ifCond .ne 5, 3) := by decide +kernel
theorem dX10_clause_87 : decode cX10_clause 87 = .ok (.iconst (-1), 1) := by decide +kernel
theorem dX10_clause_88 : decode cX10_clause 88 = .ok (.ireturn, 1) := by decide +kernel
theorem dX10_clause_89 : decode cX10_clause 89 = .ok (.aload_n 0, 1) := by decide +kernel
theorem dX10_clause_90 : decode cX10_clause 90 = .ok (.getfield 36, 3) := by decide +kernel
theorem dX10_clause_93 : decode cX10_clause 93 = .ok (.iload_n 3, 1) := by decide +kernel
theorem dX10_clause_94 : decode cX10_clause 94 = .ok (.aload_n 0, 1) := by decide +kernel
theorem dX10_clause_95 : decode cX10_clause 95 = .ok (.getfield 33, 3) := by decide +kernel
theorem dX10_clause_98 : decode cX10_clause 98 = .ok (.aload_n 0, 1) := by decide +kernel
theorem dX10_clause_99 : decode cX10_clause 99 = .ok (.getfield 177, 3) := by decide +kernel
theorem dX10_clause_102 : decode cX10_clause 102 = .ok (.iaload, 1) := by decide +kernel
theorem dX10_clause_103 : decode cX10_clause 103 = .ok (.bipush 48, 2) := by decide +kernel
theorem dX10_clause_105 : decode cX10_clause 105 = .ok (.isub, 1) := by decide +kernel
theorem dX10_clause_106 : decode cX10_clause 106 = .ok (.iastore, 1) := by decide +kernel
theorem dX10_clause_107 : decode cX10_clause 107 = .ok (.aload_n 0, 1) := by decide +kernel
theorem dX10_clause_108 : decode cX10_clause 108 = .ok (.dup, 1) := by decide +kernel
theorem dX10_clause_109 : decode cX10_clause 109 = .ok (.getfield 177, 3) := by decide +kernel
theorem dX10_clause_112 : decode cX10_clause 112 = .ok (.iconst 1, 1) := by decide +kernel
theorem dX10_clause_113 : decode cX10_clause 113 = .ok (.iadd, 1) := by decide +kernel
theorem dX10_clause_114 : decode cX10_clause 114 = .ok (.putfield 177, 3) := by decide +kernel
theorem dX10_clause_117 : decode cX10_clause 117 = .ok (.iinc 3 1, 3) := by decide +kernel
theorem dX10_clause_120 : decode cX10_clause 120 = .ok (.goto (-71), 3) := by decide +kernel
theorem dX10_clause_123 : decode cX10_clause 123 = .ok (.iload_n 1, 1) := by decide +kernel
theorem dX10_clause_124 : decode cX10_clause 124 = .ok (.ireturn, 1) := by decide +kernel
theorem dX10_isDone_0 : decode cX10_isDone 0 = .ok (.iload_n 1, 1) := by decide +kernel
theorem dX10_isDone_1 : decode cX10_isDone 1 = .ok (.lookupswitch 164 #[(43, 51), (45, 82), (99, 126), (109, 145), (122, 107)], 51) := by decide +kernel
theorem dX10_isDone_52 : decode cX10_isDone 52 = .ok (.aload_n 0, 1) := by decide +kernel
theorem dX10_isDone_53 : decode cX10_isDone 53 = .ok (.aload_n 0, 1) := by decide +kernel
theorem dX10_isDone_54 : decode cX10_isDone 54 = .ok (.getfield 36, 3) := by decide +kernel
theorem dX10_isDone_57 : decode cX10_isDone 57 = .ok (.iconst 0, 1) := by decide +kernel
theorem dX10_isDone_58 : decode cX10_isDone 58 = .ok (.iaload, 1) := by decide +kernel
theorem dX10_isDone_59 : decode cX10_isDone 59 = .ok (.aload_n 0, 1) := by decide +kernel
theorem dX10_isDone_60 : decode cX10_isDone 60 = .ok (.getfield 36, 3) := by decide +kernel
theorem dX10_isDone_63 : decode cX10_isDone 63 = .ok (.iconst 1, 1) := by decide +kernel
theorem dX10_isDone_64 : decode cX10_isDone 64 = .ok (.iaload, 1) := by decide +kernel
theorem dX10_isDone_65 : decode cX10_isDone 65 = .ok (.aload_n 0, 1) := by decide +kernel
theorem dX10_isDone_66 : decode cX10_isDone 66 = .ok (.getfield 36, 3) := by decide +kernel
theorem dX10_isDone_69 : decode cX10_isDone 69 = .ok (.iconst 2, 1) := by decide +kernel
theorem dX10_isDone_70 : decode cX10_isDone 70 = .ok (.iaload, 1) := by decide +kernel
theorem dX10_isDone_71 : decode cX10_isDone 71 = .ok (.invokevirtual 188, 3) := by decide +kernel
theorem dX10_isDone_74 : decode cX10_isDone 74 = .ok (.ifCond .lt 7, 3) := by decide +kernel
theorem dX10_isDone_77 : decode cX10_isDone 77 = .ok (.iconst 1, 1) := by decide +kernel
theorem dX10_isDone_78 : decode cX10_isDone 78 = .ok (.goto 4, 3) := by decide +kernel
theorem dX10_isDone_81 : decode cX10_isDone 81 = .ok (.iconst 0, 1) := by decide +kernel
theorem dX10_isDone_82 : decode cX10_isDone 82 = .ok (.ireturn, 1) := by decide +kernel
theorem dX10_isDone_83 : decode cX10_isDone 83 = .ok (.aload_n 0, 1) := by decide +kernel
theorem dX10_isDone_84 : decode cX10_isDone 84 = .ok (.aload_n 0, 1) := by decide +kernel
theorem dX10_isDone_85 : decode cX10_isDone 85 = .ok (.getfield 36, 3) := by decide +kernel
theorem dX10_isDone_88 : decode cX10_isDone 88 = .ok (.iconst 0, 1) := by decide +kernel
theorem dX10_isDone_89 : decode cX10_isDone 89 = .ok (.iaload, 1) := by decide +kernel
theorem dX10_isDone_90 : decode cX10_isDone 90 = .ok (.aload_n 0, 1) := by decide +kernel
theorem dX10_isDone_91 : decode cX10_isDone 91 = .ok (.getfield 36, 3) := by decide +kernel
theorem dX10_isDone_94 : decode cX10_isDone 94 = .ok (.iconst 1, 1) := by decide +kernel
theorem dX10_isDone_95 : decode cX10_isDone 95 = .ok (.iaload, 1) := by decide +kernel
theorem dX10_isDone_96 : decode cX10_isDone 96 = .ok (.invokevirtual 191, 3) := by decide +kernel
theorem dX10_isDone_99 : decode cX10_isDone 99 = .ok (.ifCond .lt 7, 3) := by decide +kernel
theorem dX10_isDone_102 : decode cX10_isDone 102 = .ok (.iconst 1, 1) := by decide +kernel
theorem dX10_isDone_103 : decode cX10_isDone 103 = .ok (.goto 4, 3) := by decide +kernel
theorem dX10_isDone_106 : decode cX10_isDone 106 = .ok (.iconst 0, 1) := by decide +kernel
theorem dX10_isDone_107 : decode cX10_isDone 107 = .ok (.ireturn, 1) := by decide +kernel
theorem dX10_isDone_108 : decode cX10_isDone 108 = .ok (.aload_n 0, 1) := by decide +kernel
theorem dX10_isDone_109 : decode cX10_isDone 109 = .ok (.aload_n 0, 1) := by decide +kernel
theorem dX10_isDone_110 : decode cX10_isDone 110 = .ok (.getfield 36, 3) := by decide +kernel
theorem dX10_isDone_113 : decode cX10_isDone 113 = .ok (.iconst 0, 1) := by decide +kernel
theorem dX10_isDone_114 : decode cX10_isDone 114 = .ok (.iaload, 1) := by decide +kernel
theorem dX10_isDone_115 : decode cX10_isDone 115 = .ok (.invokevirtual 194, 3) := by decide +kernel
theorem dX10_isDone_118 : decode cX10_isDone 118 = .ok (.ifCond .lt 7, 3) := by decide +kernel
theorem dX10_isDone_121 : decode cX10_isDone 121 = .ok (.iconst 1, 1) := by decide +kernel
theorem dX10_isDone_122 : decode cX10_isDone 122 = .ok (.goto 4, 3) := by decide +kernel
theorem dX10_isDone_125 : decode cX10_isDone 125 = .ok (.iconst 0, 1) := by decide +kernel
theorem dX10_isDone_126 : decode cX10_isDone 126 = .ok (.ireturn, 1) := by decide +kernel
theorem dX10_isDone_127 : decode cX10_isDone 127 = .ok (.aload_n 0, 1) := by decide +kernel
theorem dX10_isDone_128 : decode cX10_isDone 128 = .ok (.aload_n 0, 1) := by decide +kernel
theorem dX10_isDone_129 : decode cX10_isDone 129 = .ok (.getfield 36, 3) := by decide +kernel
theorem dX10_isDone_132 : decode cX10_isDone 132 = .ok (.iconst 0, 1) := by decide +kernel
theorem dX10_isDone_133 : decode cX10_isDone 133 = .ok (.iaload, 1) := by decide +kernel
theorem dX10_isDone_134 : decode cX10_isDone 134 = .ok (.invokevirtual 197, 3) := by decide +kernel
theorem dX10_isDone_137 : decode cX10_isDone 137 = .ok (.ifCond .lt 7, 3) := by decide +kernel
theorem dX10_isDone_140 : decode cX10_isDone 140 = .ok (.iconst 1, 1) := by decide +kernel
theorem dX10_isDone_141 : decode cX10_isDone 141 = .ok (.goto 4, 3) := by decide +kernel
theorem dX10_isDone_144 : decode cX10_isDone 144 = .ok (.iconst 0, 1) := by decide +kernel
theorem dX10_isDone_145 : decode cX10_isDone 145 = .ok (.ireturn, 1) := by decide +kernel
theorem dX10_isDone_146 : decode cX10_isDone 146 = .ok (.aload_n 0, 1) := by decide +kernel
theorem dX10_isDone_147 : decode cX10_isDone 147 = .ok (.aload_n 0, 1) := by decide +kernel
theorem dX10_isDone_148 : decode cX10_isDone 148 = .ok (.getfield 36, 3) := by decide +kernel
theorem dX10_isDone_151 : decode cX10_isDone 151 = .ok (.iconst 0, 1) := by decide +kernel
theorem dX10_isDone_152 : decode cX10_isDone 152 = .ok (.iaload, 1) := by decide +kernel
theorem dX10_isDone_153 : decode cX10_isDone 153 = .ok (.invokevirtual 200, 3) := by decide +kernel
theorem dX10_isDone_156 : decode cX10_isDone 156 = .ok (.ifCond .lt 7, 3) := by decide +kernel
theorem dX10_isDone_159 : decode cX10_isDone 159 = .ok (.iconst 1, 1) := by decide +kernel
theorem dX10_isDone_160 : decode cX10_isDone 160 = .ok (.goto 4, 3) := by decide +kernel
theorem dX10_isDone_163 : decode cX10_isDone 163 = .ok (.iconst 0, 1) := by decide +kernel
theorem dX10_isDone_164 : decode cX10_isDone 164 = .ok (.ireturn, 1) := by decide +kernel
theorem dX10_isDone_165 : decode cX10_isDone 165 = .ok (.aload_n 0, 1) := by decide +kernel
theorem dX10_isDone_166 : decode cX10_isDone 166 = .ok (.invokevirtual 203, 3) := by decide +kernel
theorem dX10_isDone_169 : decode cX10_isDone 169 = .ok (.ifCond .lt 7, 3) := by decide +kernel
theorem dX10_isDone_172 : decode cX10_isDone 172 = .ok (.iconst 1, 1) := by decide +kernel
theorem dX10_isDone_173 : decode cX10_isDone 173 = .ok (.goto 4, 3) := by decide +kernel
theorem dX10_isDone_176 : decode cX10_isDone 176 = .ok (.iconst 0, 1) := by decide +kernel
theorem dX10_isDone_177 : decode cX10_isDone 177 = .ok (.ireturn, 1) := by decide +kernel
theorem dX10_clauses_0 : decode cX10_clauses 0 = .ok (.aload_n 0, 1) := by decide +kernel
theorem dX10_clauses_1 : decode cX10_clauses 1 = .ok (.iconst 0, 1) := by decide +kernel
theorem dX10_clauses_2 : decode cX10_clauses 2 = .ok (.putfield 177, 3) := by decide +kernel
theorem dX10_clauses_5 : decode cX10_clauses 5 = .ok (.iconst 0, 1) := by decide +kernel
theorem dX10_clauses_6 : decode cX10_clauses 6 = .ok (.istore_n 1, 1) := by decide +kernel
theorem dX10_clauses_7 : decode cX10_clauses 7 = .ok (.iconst 1, 1) := by decide +kernel
theorem dX10_clauses_8 : decode cX10_clauses 8 = .ok (.istore_n 2, 1) := by decide +kernel
theorem dX10_clauses_9 : decode cX10_clauses 9 = .ok (.iload_n 2, 1) := by decide +kernel
theorem dX10_clauses_10 : decode cX10_clauses 10 = .ok (.ifCond .eq 74, 3) := by decide +kernel
theorem dX10_clauses_13 : decode cX10_clauses 13 = .ok (.aload_n 0, 1) := by decide +kernel
theorem dX10_clauses_14 : decode cX10_clauses 14 = .ok (.invokevirtual 207, 3) := by decide +kernel
theorem dX10_clauses_17 : decode cX10_clauses 17 = .ok (.iconst (-1), 1) := by decide +kernel
theorem dX10_clauses_18 : decode cX10_clauses 18 = .ok (.if_icmp .ne 5, 3) := by decide +kernel
theorem dX10_clauses_21 : decode cX10_clauses 21 = .ok (.iconst (-1), 1) := by decide +kernel
theorem dX10_clauses_22 : decode cX10_clauses 22 = .ok (.ireturn, 1) := by decide +kernel
theorem dX10_clauses_23 : decode cX10_clauses 23 = .ok (.iinc 1 1, 3) := by decide +kernel
theorem dX10_clauses_26 : decode cX10_clauses 26 = .ok (.aload_n 0, 1) := by decide +kernel
theorem dX10_clauses_27 : decode cX10_clauses 27 = .ok (.getfield 177, 3) := by decide +kernel
theorem dX10_clauses_30 : decode cX10_clauses 30 = .ok (.aload_n 0, 1) := by decide +kernel
theorem dX10_clauses_31 : decode cX10_clauses 31 = .ok (.getfield 174, 3) := by decide +kernel
theorem dX10_clauses_34 : decode cX10_clauses 34 = .ok (.if_icmp .ge 27, 3) := by decide +kernel
theorem dX10_clauses_37 : decode cX10_clauses 37 = .ok (.aload_n 0, 1) := by decide +kernel
theorem dX10_clauses_38 : decode cX10_clauses 38 = .ok (.getfield 33, 3) := by decide +kernel
theorem dX10_clauses_41 : decode cX10_clauses 41 = .ok (.aload_n 0, 1) := by decide +kernel
theorem dX10_clauses_42 : decode cX10_clauses 42 = .ok (.getfield 177, 3) := by decide +kernel
theorem dX10_clauses_45 : decode cX10_clauses 45 = .ok (.iaload, 1) := by decide +kernel
theorem dX10_clauses_46 : decode cX10_clauses 46 = .ok (.bipush 59, 2) := by decide +kernel
theorem dX10_clauses_48 : decode cX10_clauses 48 = .ok (.if_icmp .ne 13, 3) := by decide +kernel
theorem dX10_clauses_51 : decode cX10_clauses 51 = .ok (.iload_n 1, 1) := by decide +kernel
theorem dX10_clauses_52 : decode cX10_clauses 52 = .ok (.bipush 12, 2) := by decide +kernel
theorem dX10_clauses_54 : decode cX10_clauses 54 = .ok (.if_icmp .ge 7, 3) := by decide +kernel
theorem dX10_clauses_57 : decode cX10_clauses 57 = .ok (.iconst 1, 1) := by decide +kernel
theorem dX10_clauses_58 : decode cX10_clauses 58 = .ok (.goto 4, 3) := by decide +kernel
theorem dX10_clauses_61 : decode cX10_clauses 61 = .ok (.iconst 0, 1) := by decide +kernel
theorem dX10_clauses_62 : decode cX10_clauses 62 = .ok (.istore_n 2, 1) := by decide +kernel
theorem dX10_clauses_63 : decode cX10_clauses 63 = .ok (.aload_n 0, 1) := by decide +kernel
theorem dX10_clauses_64 : decode cX10_clauses 64 = .ok (.dup, 1) := by decide +kernel
theorem dX10_clauses_65 : decode cX10_clauses 65 = .ok (.getfield 177, 3) := by decide +kernel
theorem dX10_clauses_68 : decode cX10_clauses 68 = .ok (.iload_n 2, 1) := by decide +kernel
theorem dX10_clauses_69 : decode cX10_clauses 69 = .ok (.ifCond .eq 7, 3) := by decide +kernel
theorem dX10_clauses_72 : decode cX10_clauses 72 = .ok (.iconst 1, 1) := by decide +kernel
theorem dX10_clauses_73 : decode cX10_clauses 73 = .ok (.goto 4, 3) := by decide +kernel
theorem dX10_clauses_76 : decode cX10_clauses 76 = .ok (.iconst 0, 1) := by decide +kernel
theorem dX10_clauses_77 : decode cX10_clauses 77 = .ok (.iadd, 1) := by decide +kernel
theorem dX10_clauses_78 : decode cX10_clauses 78 = .ok (.putfield 177, 3) := by decide +kernel
theorem dX10_clauses_81 : decode cX10_clauses 81 = .ok (.goto (-72), 3) := by decide +kernel
theorem dX10_clauses_84 : decode cX10_clauses 84 = .ok (.aload_n 0, 1) := by decide +kernel
theorem dX10_clauses_85 : decode cX10_clauses 85 = .ok (.getfield 177, 3) := by decide +kernel
theorem dX10_clauses_88 : decode cX10_clauses 88 = .ok (.aload_n 0, 1) := by decide +kernel
theorem dX10_clauses_89 : decode cX10_clauses 89 = .ok (.getfield 174, 3) := by decide +kernel
theorem dX10_clauses_92 : decode cX10_clauses 92 = .ok (.if_icmp .ne 7, 3) := by decide +kernel
theorem dX10_clauses_95 : decode cX10_clauses 95 = .ok (.iload_n 1, 1) := by decide +kernel
theorem dX10_clauses_96 : decode cX10_clauses 96 = .ok (.goto 4, 3) := by decide +kernel
theorem dX10_clauses_99 : decode cX10_clauses 99 = .ok (.iconst (-1), 1) := by decide +kernel
theorem dX10_clauses_100 : decode cX10_clauses 100 = .ok (.ireturn, 1) := by decide +kernel
theorem dX10_read_0 : decode cX10_read 0 = .ok (.aload_n 0, 1) := by decide +kernel
theorem dX10_read_1 : decode cX10_read 1 = .ok (.invokevirtual 210, 3) := by decide +kernel
theorem dX10_read_4 : decode cX10_read 4 = .ok (.istore_n 1, 1) := by decide +kernel
theorem dX10_read_5 : decode cX10_read 5 = .ok (.iload_n 1, 1) := by decide +kernel
theorem dX10_read_6 : decode cX10_read 6 = .ok (.iconst (-1), 1) := by decide +kernel
theorem dX10_read_7 : decode cX10_read 7 = .ok (.if_icmp .ne 16, 3) := by decide +kernel
theorem dX10_read_10 : decode cX10_read 10 = .ok (.aload_n 0, 1) := by decide +kernel
theorem dX10_read_11 : decode cX10_read 11 = .ok (.iconst 0, 1) := by decide +kernel
theorem dX10_read_12 : decode cX10_read 12 = .ok (.putfield 174, 3) := by decide +kernel
theorem dX10_read_15 : decode cX10_read 15 = .ok (.bipush (-10), 2) := by decide +kernel
theorem dX10_read_17 : decode cX10_read 17 = .ok (.aload_n 0, 1) := by decide +kernel
theorem dX10_read_18 : decode cX10_read 18 = .ok (.getfield 177, 3) := by decide +kernel
theorem dX10_read_21 : decode cX10_read 21 = .ok (.isub, 1) := by decide +kernel
theorem dX10_read_22 : decode cX10_read 22 = .ok (.ireturn, 1) := by decide +kernel
theorem dX10_read_23 : decode cX10_read 23 = .ok (.aload_n 0, 1) := by decide +kernel
theorem dX10_read_24 : decode cX10_read 24 = .ok (.iconst 0, 1) := by decide +kernel
theorem dX10_read_25 : decode cX10_read 25 = .ok (.putfield 177, 3) := by decide +kernel
theorem dX10_read_28 : decode cX10_read 28 = .ok (.iconst 0, 1) := by decide +kernel
theorem dX10_read_29 : decode cX10_read 29 = .ok (.istore_n 2, 1) := by decide +kernel
theorem dX10_read_30 : decode cX10_read 30 = .ok (.iconst 0, 1) := by decide +kernel
theorem dX10_read_31 : decode cX10_read 31 = .ok (.istore_n 3, 1) := by decide +kernel
theorem dX10_read_32 : decode cX10_read 32 = .ok (.iload_n 3, 1) := by decide +kernel
theorem dX10_read_33 : decode cX10_read 33 = .ok (.iload_n 1, 1) := by decide +kernel
theorem dX10_read_34 : decode cX10_read 34 = .ok (.if_icmp .ge 38, 3) := by decide +kernel
theorem dX10_read_37 : decode cX10_read 37 = .ok (.iload_n 2, 1) := by decide +kernel
theorem dX10_read_38 : decode cX10_read 38 = .ok (.aload_n 0, 1) := by decide +kernel
theorem dX10_read_39 : decode cX10_read 39 = .ok (.aload_n 0, 1) := by decide +kernel
theorem dX10_read_40 : decode cX10_read 40 = .ok (.invokevirtual 207, 3) := by decide +kernel
theorem dX10_read_43 : decode cX10_read 43 = .ok (.invokevirtual 213, 3) := by decide +kernel
theorem dX10_read_46 : decode cX10_read 46 = .ok (.ifCond .eq 7, 3) := by decide +kernel
theorem dX10_read_49 : decode cX10_read 49 = .ok (.iconst 1, 1) := by decide +kernel
theorem dX10_read_50 : decode cX10_read 50 = .ok (.goto 4, 3) := by decide +kernel
theorem dX10_read_53 : decode cX10_read 53 = .ok (.iconst 0, 1) := by decide +kernel
theorem dX10_read_54 : decode cX10_read 54 = .ok (.iadd, 1) := by decide +kernel
theorem dX10_read_55 : decode cX10_read 55 = .ok (.istore_n 2, 1) := by decide +kernel
theorem dX10_read_56 : decode cX10_read 56 = .ok (.aload_n 0, 1) := by decide +kernel
theorem dX10_read_57 : decode cX10_read 57 = .ok (.dup, 1) := by decide +kernel
theorem dX10_read_58 : decode cX10_read 58 = .ok (.getfield 177, 3) := by decide +kernel
theorem dX10_read_61 : decode cX10_read 61 = .ok (.iconst 1, 1) := by decide +kernel
theorem dX10_read_62 : decode cX10_read 62 = .ok (.iadd, 1) := by decide +kernel
theorem dX10_read_63 : decode cX10_read 63 = .ok (.putfield 177, 3) := by decide +kernel
theorem dX10_read_66 : decode cX10_read 66 = .ok (.iinc 3 1, 3) := by decide +kernel
theorem dX10_read_69 : decode cX10_read 69 = .ok (.goto (-37), 3) := by decide +kernel
theorem dX10_read_72 : decode cX10_read 72 = .ok (.aload_n 0, 1) := by decide +kernel
theorem dX10_read_73 : decode cX10_read 73 = .ok (.iconst 0, 1) := by decide +kernel
theorem dX10_read_74 : decode cX10_read 74 = .ok (.putfield 174, 3) := by decide +kernel
theorem dX10_read_77 : decode cX10_read 77 = .ok (.iload_n 2, 1) := by decide +kernel
theorem dX10_read_78 : decode cX10_read 78 = .ok (.ireturn, 1) := by decide +kernel
theorem dX10_levelOf_0 : decode cX10_levelOf 0 = .ok (.sipush 1000, 3) := by decide +kernel
theorem dX10_levelOf_3 : decode cX10_levelOf 3 = .ok (.istore 4, 2) := by decide +kernel
theorem dX10_levelOf_5 : decode cX10_levelOf 5 = .ok (.iconst 0, 1) := by decide +kernel
theorem dX10_levelOf_6 : decode cX10_levelOf 6 = .ok (.istore 5, 2) := by decide +kernel
theorem dX10_levelOf_8 : decode cX10_levelOf 8 = .ok (.iload 5, 2) := by decide +kernel
theorem dX10_levelOf_10 : decode cX10_levelOf 10 = .ok (.aload_n 0, 1) := by decide +kernel
theorem dX10_levelOf_11 : decode cX10_levelOf 11 = .ok (.getfield 11, 3) := by decide +kernel
theorem dX10_levelOf_14 : decode cX10_levelOf 14 = .ok (.iload_n 1, 1) := by decide +kernel
theorem dX10_levelOf_15 : decode cX10_levelOf 15 = .ok (.iaload, 1) := by decide +kernel
theorem dX10_levelOf_16 : decode cX10_levelOf 16 = .ok (.if_icmp .ge 35, 3) := by decide +kernel
theorem dX10_levelOf_19 : decode cX10_levelOf 19 = .ok (.iload 4, 2) := by decide +kernel
theorem dX10_levelOf_21 : decode cX10_levelOf 21 = .ok (.iload_n 2, 1) := by decide +kernel
theorem dX10_levelOf_22 : decode cX10_levelOf 22 = .ok (.aload_n 0, 1) := by decide +kernel
theorem dX10_levelOf_23 : decode cX10_levelOf 23 = .ok (.iload_n 1, 1) := by decide +kernel
theorem dX10_levelOf_24 : decode cX10_levelOf 24 = .ok (.iload 5, 2) := by decide +kernel
theorem dX10_levelOf_26 : decode cX10_levelOf 26 = .ok (.invokevirtual 125, 3) := by decide +kernel
theorem dX10_levelOf_29 : decode cX10_levelOf 29 = .ok (.imul, 1) := by decide +kernel
theorem dX10_levelOf_30 : decode cX10_levelOf 30 = .ok (.iload_n 3, 1) := by decide +kernel
theorem dX10_levelOf_31 : decode cX10_levelOf 31 = .ok (.aload_n 0, 1) := by decide +kernel
theorem dX10_levelOf_32 : decode cX10_levelOf 32 = .ok (.iload_n 1, 1) := by decide +kernel
theorem dX10_levelOf_33 : decode cX10_levelOf 33 = .ok (.iload 5, 2) := by decide +kernel
theorem dX10_levelOf_35 : decode cX10_levelOf 35 = .ok (.invokevirtual 129, 3) := by decide +kernel
theorem dX10_levelOf_38 : decode cX10_levelOf 38 = .ok (.imul, 1) := by decide +kernel
theorem dX10_levelOf_39 : decode cX10_levelOf 39 = .ok (.iadd, 1) := by decide +kernel
theorem dX10_levelOf_40 : decode cX10_levelOf 40 = .ok (.invokestatic 216, 3) := by decide +kernel
theorem dX10_levelOf_43 : decode cX10_levelOf 43 = .ok (.istore 4, 2) := by decide +kernel
theorem dX10_levelOf_45 : decode cX10_levelOf 45 = .ok (.iinc 5 1, 3) := by decide +kernel
theorem dX10_levelOf_48 : decode cX10_levelOf 48 = .ok (.goto (-40), 3) := by decide +kernel
theorem dX10_levelOf_51 : decode cX10_levelOf 51 = .ok (.iload 4, 2) := by decide +kernel
theorem dX10_levelOf_53 : decode cX10_levelOf 53 = .ok (.ireturn, 1) := by decide +kernel
theorem dX10_metBy_0 : decode cX10_metBy 0 = .ok (.iconst 0, 1) := by decide +kernel
theorem dX10_metBy_1 : decode cX10_metBy 1 = .ok (.istore 5, 2) := by decide +kernel
theorem dX10_metBy_3 : decode cX10_metBy 3 = .ok (.iconst 0, 1) := by decide +kernel
theorem dX10_metBy_4 : decode cX10_metBy 4 = .ok (.istore 6, 2) := by decide +kernel
theorem dX10_metBy_6 : decode cX10_metBy 6 = .ok (.iload 6, 2) := by decide +kernel
theorem dX10_metBy_8 : decode cX10_metBy 8 = .ok (.aload_n 0, 1) := by decide +kernel
theorem dX10_metBy_9 : decode cX10_metBy 9 = .ok (.getfield 11, 3) := by decide +kernel
theorem dX10_metBy_12 : decode cX10_metBy 12 = .ok (.iload_n 1, 1) := by decide +kernel
theorem dX10_metBy_13 : decode cX10_metBy 13 = .ok (.iaload, 1) := by decide +kernel
theorem dX10_metBy_14 : decode cX10_metBy 14 = .ok (.if_icmp .ge 43, 3) := by decide +kernel
theorem dX10_metBy_17 : decode cX10_metBy 17 = .ok (.iload 5, 2) := by decide +kernel
theorem dX10_metBy_19 : decode cX10_metBy 19 = .ok (.iload_n 2, 1) := by decide +kernel
theorem dX10_metBy_20 : decode cX10_metBy 20 = .ok (.aload_n 0, 1) := by decide +kernel
theorem dX10_metBy_21 : decode cX10_metBy 21 = .ok (.iload_n 1, 1) := by decide +kernel
theorem dX10_metBy_22 : decode cX10_metBy 22 = .ok (.iload 6, 2) := by decide +kernel
theorem dX10_metBy_24 : decode cX10_metBy 24 = .ok (.invokevirtual 125, 3) := by decide +kernel
theorem dX10_metBy_27 : decode cX10_metBy 27 = .ok (.imul, 1) := by decide +kernel
theorem dX10_metBy_28 : decode cX10_metBy 28 = .ok (.iload_n 3, 1) := by decide +kernel
theorem dX10_metBy_29 : decode cX10_metBy 29 = .ok (.aload_n 0, 1) := by decide +kernel
theorem dX10_metBy_30 : decode cX10_metBy 30 = .ok (.iload_n 1, 1) := by decide +kernel
theorem dX10_metBy_31 : decode cX10_metBy 31 = .ok (.iload 6, 2) := by decide +kernel
theorem dX10_metBy_33 : decode cX10_metBy 33 = .ok (.invokevirtual 129, 3) := by decide +kernel
theorem dX10_metBy_36 : decode cX10_metBy 36 = .ok (.imul, 1) := by decide +kernel
theorem dX10_metBy_37 : decode cX10_metBy 37 = .ok (.iadd, 1) := by decide +kernel
theorem dX10_metBy_38 : decode cX10_metBy 38 = .ok (.iload 4, 2) := by decide +kernel
theorem dX10_metBy_40 : decode cX10_metBy 40 = .ok (.if_icmp .ne 7, 3) := by decide +kernel
theorem dX10_metBy_43 : decode cX10_metBy 43 = .ok (.iconst 1, 1) := by decide +kernel
theorem dX10_metBy_44 : decode cX10_metBy 44 = .ok (.goto 4, 3) := by decide +kernel
theorem dX10_metBy_47 : decode cX10_metBy 47 = .ok (.iconst 0, 1) := by decide +kernel
theorem dX10_metBy_48 : decode cX10_metBy 48 = .ok (.iadd, 1) := by decide +kernel
theorem dX10_metBy_49 : decode cX10_metBy 49 = .ok (.istore 5, 2) := by decide +kernel
theorem dX10_metBy_51 : decode cX10_metBy 51 = .ok (.iinc 6 1, 3) := by decide +kernel
theorem dX10_metBy_54 : decode cX10_metBy 54 = .ok (.goto (-48), 3) := by decide +kernel
theorem dX10_metBy_57 : decode cX10_metBy 57 = .ok (.iload 5, 2) := by decide +kernel
theorem dX10_metBy_59 : decode cX10_metBy 59 = .ok (.ireturn, 1) := by decide +kernel
theorem dX10_comesFace_0 : decode cX10_comesFace 0 = .ok (.aload_n 0, 1) := by decide +kernel
theorem dX10_comesFace_1 : decode cX10_comesFace 1 = .ok (.getfield 221, 3) := by decide +kernel
theorem dX10_comesFace_4 : decode cX10_comesFace 4 = .ok (.istore 4, 2) := by decide +kernel
theorem dX10_comesFace_6 : decode cX10_comesFace 6 = .ok (.iload 4, 2) := by decide +kernel
theorem dX10_comesFace_8 : decode cX10_comesFace 8 = .ok (.ifCond .le 82, 3) := by decide +kernel
theorem dX10_comesFace_11 : decode cX10_comesFace 11 = .ok (.iload_n 2, 1) := by decide +kernel
theorem dX10_comesFace_12 : decode cX10_comesFace 12 = .ok (.aload_n 0, 1) := by decide +kernel
theorem dX10_comesFace_13 : decode cX10_comesFace 13 = .ok (.getfield 42, 3) := by decide +kernel
theorem dX10_comesFace_16 : decode cX10_comesFace 16 = .ok (.iload 4, 2) := by decide +kernel
theorem dX10_comesFace_18 : decode cX10_comesFace 18 = .ok (.iconst 1, 1) := by decide +kernel
theorem dX10_comesFace_19 : decode cX10_comesFace 19 = .ok (.isub, 1) := by decide +kernel
theorem dX10_comesFace_20 : decode cX10_comesFace 20 = .ok (.iaload, 1) := by decide +kernel
theorem dX10_comesFace_21 : decode cX10_comesFace 21 = .ok (.imul, 1) := by decide +kernel
theorem dX10_comesFace_22 : decode cX10_comesFace 22 = .ok (.aload_n 0, 1) := by decide +kernel
theorem dX10_comesFace_23 : decode cX10_comesFace 23 = .ok (.getfield 39, 3) := by decide +kernel
theorem dX10_comesFace_26 : decode cX10_comesFace 26 = .ok (.iload 4, 2) := by decide +kernel
theorem dX10_comesFace_28 : decode cX10_comesFace 28 = .ok (.iconst 1, 1) := by decide +kernel
theorem dX10_comesFace_29 : decode cX10_comesFace 29 = .ok (.isub, 1) := by decide +kernel
theorem dX10_comesFace_30 : decode cX10_comesFace 30 = .ok (.iaload, 1) := by decide +kernel
theorem dX10_comesFace_31 : decode cX10_comesFace 31 = .ok (.iload_n 3, 1) := by decide +kernel
theorem dX10_comesFace_32 : decode cX10_comesFace 32 = .ok (.imul, 1) := by decide +kernel
theorem dX10_comesFace_33 : decode cX10_comesFace 33 = .ok (.if_icmp .le 57, 3) := by decide +kernel
theorem dX10_comesFace_36 : decode cX10_comesFace 36 = .ok (.aload_n 0, 1) := by decide +kernel
theorem dX10_comesFace_37 : decode cX10_comesFace 37 = .ok (.getfield 39, 3) := by decide +kernel
theorem dX10_comesFace_40 : decode cX10_comesFace 40 = .ok (.iload 4, 2) := by decide +kernel
theorem dX10_comesFace_42 : decode cX10_comesFace 42 = .ok (.aload_n 0, 1) := by decide +kernel
theorem dX10_comesFace_43 : decode cX10_comesFace 43 = .ok (.getfield 39, 3) := by decide +kernel
theorem dX10_comesFace_46 : decode cX10_comesFace 46 = .ok (.iload 4, 2) := by decide +kernel
theorem dX10_comesFace_48 : decode cX10_comesFace 48 = .ok (.iconst 1, 1) := by decide +kernel
theorem dX10_comesFace_49 : decode cX10_comesFace 49 = .ok (.isub, 1) := by decide +kernel
theorem dX10_comesFace_50 : decode cX10_comesFace 50 = .ok (.iaload, 1) := by decide +kernel
theorem dX10_comesFace_51 : decode cX10_comesFace 51 = .ok (.iastore, 1) := by decide +kernel
theorem dX10_comesFace_52 : decode cX10_comesFace 52 = .ok (.aload_n 0, 1) := by decide +kernel
theorem dX10_comesFace_53 : decode cX10_comesFace 53 = .ok (.getfield 42, 3) := by decide +kernel
theorem dX10_comesFace_56 : decode cX10_comesFace 56 = .ok (.iload 4, 2) := by decide +kernel
theorem dX10_comesFace_58 : decode cX10_comesFace 58 = .ok (.aload_n 0, 1) := by decide +kernel
theorem dX10_comesFace_59 : decode cX10_comesFace 59 = .ok (.getfield 42, 3) := by decide +kernel
theorem dX10_comesFace_62 : decode cX10_comesFace 62 = .ok (.iload 4, 2) := by decide +kernel
theorem dX10_comesFace_64 : decode cX10_comesFace 64 = .ok (.iconst 1, 1) := by decide +kernel
theorem dX10_comesFace_65 : decode cX10_comesFace 65 = .ok (.isub, 1) := by decide +kernel
theorem dX10_comesFace_66 : decode cX10_comesFace 66 = .ok (.iaload, 1) := by decide +kernel
theorem dX10_comesFace_67 : decode cX10_comesFace 67 = .ok (.iastore, 1) := by decide +kernel
theorem dX10_comesFace_68 : decode cX10_comesFace 68 = .ok (.aload_n 0, 1) := by decide +kernel
theorem dX10_comesFace_69 : decode cX10_comesFace 69 = .ok (.getfield 45, 3) := by decide +kernel
theorem dX10_comesFace_72 : decode cX10_comesFace 72 = .ok (.iload 4, 2) := by decide +kernel
theorem dX10_comesFace_74 : decode cX10_comesFace 74 = .ok (.aload_n 0, 1) := by decide +kernel
theorem dX10_comesFace_75 : decode cX10_comesFace 75 = .ok (.getfield 45, 3) := by decide +kernel
theorem dX10_comesFace_78 : decode cX10_comesFace 78 = .ok (.iload 4, 2) := by decide +kernel
theorem dX10_comesFace_80 : decode cX10_comesFace 80 = .ok (.iconst 1, 1) := by decide +kernel
theorem dX10_comesFace_81 : decode cX10_comesFace 81 = .ok (.isub, 1) := by decide +kernel
theorem dX10_comesFace_82 : decode cX10_comesFace 82 = .ok (.iaload, 1) := by decide +kernel
theorem dX10_comesFace_83 : decode cX10_comesFace 83 = .ok (.iastore, 1) := by decide +kernel
theorem dX10_comesFace_84 : decode cX10_comesFace 84 = .ok (.iinc 4 (-1), 3) := by decide +kernel
theorem dX10_comesFace_87 : decode cX10_comesFace 87 = .ok (.goto (-81), 3) := by decide +kernel
theorem dX10_comesFace_90 : decode cX10_comesFace 90 = .ok (.aload_n 0, 1) := by decide +kernel
theorem dX10_comesFace_91 : decode cX10_comesFace 91 = .ok (.getfield 39, 3) := by decide +kernel
theorem dX10_comesFace_94 : decode cX10_comesFace 94 = .ok (.iload 4, 2) := by decide +kernel
theorem dX10_comesFace_96 : decode cX10_comesFace 96 = .ok (.iload_n 2, 1) := by decide +kernel
theorem dX10_comesFace_97 : decode cX10_comesFace 97 = .ok (.iastore, 1) := by decide +kernel
theorem dX10_comesFace_98 : decode cX10_comesFace 98 = .ok (.aload_n 0, 1) := by decide +kernel
theorem dX10_comesFace_99 : decode cX10_comesFace 99 = .ok (.getfield 42, 3) := by decide +kernel
theorem dX10_comesFace_102 : decode cX10_comesFace 102 = .ok (.iload 4, 2) := by decide +kernel
theorem dX10_comesFace_104 : decode cX10_comesFace 104 = .ok (.iload_n 3, 1) := by decide +kernel
theorem dX10_comesFace_105 : decode cX10_comesFace 105 = .ok (.iastore, 1) := by decide +kernel
theorem dX10_comesFace_106 : decode cX10_comesFace 106 = .ok (.aload_n 0, 1) := by decide +kernel
theorem dX10_comesFace_107 : decode cX10_comesFace 107 = .ok (.getfield 45, 3) := by decide +kernel
theorem dX10_comesFace_110 : decode cX10_comesFace 110 = .ok (.iload 4, 2) := by decide +kernel
theorem dX10_comesFace_112 : decode cX10_comesFace 112 = .ok (.aload_n 0, 1) := by decide +kernel
theorem dX10_comesFace_113 : decode cX10_comesFace 113 = .ok (.iload_n 1, 1) := by decide +kernel
theorem dX10_comesFace_114 : decode cX10_comesFace 114 = .ok (.iload_n 2, 1) := by decide +kernel
theorem dX10_comesFace_115 : decode cX10_comesFace 115 = .ok (.iload_n 3, 1) := by decide +kernel
theorem dX10_comesFace_116 : decode cX10_comesFace 116 = .ok (.invokevirtual 224, 3) := by decide +kernel
theorem dX10_comesFace_119 : decode cX10_comesFace 119 = .ok (.iastore, 1) := by decide +kernel
theorem dX10_comesFace_120 : decode cX10_comesFace 120 = .ok (.aload_n 0, 1) := by decide +kernel
theorem dX10_comesFace_121 : decode cX10_comesFace 121 = .ok (.dup, 1) := by decide +kernel
theorem dX10_comesFace_122 : decode cX10_comesFace 122 = .ok (.getfield 221, 3) := by decide +kernel
theorem dX10_comesFace_125 : decode cX10_comesFace 125 = .ok (.iconst 1, 1) := by decide +kernel
theorem dX10_comesFace_126 : decode cX10_comesFace 126 = .ok (.iadd, 1) := by decide +kernel
theorem dX10_comesFace_127 : decode cX10_comesFace 127 = .ok (.putfield 221, 3) := by decide +kernel
theorem dX10_comesFace_130 : decode cX10_comesFace 130 = .ok (.return_, 1) := by decide +kernel
theorem dX10_tellsFaces_0 : decode cX10_tellsFaces 0 = .ok (.aload_n 0, 1) := by decide +kernel
theorem dX10_tellsFaces_1 : decode cX10_tellsFaces 1 = .ok (.iconst 0, 1) := by decide +kernel
theorem dX10_tellsFaces_2 : decode cX10_tellsFaces 2 = .ok (.putfield 221, 3) := by decide +kernel
theorem dX10_tellsFaces_5 : decode cX10_tellsFaces 5 = .ok (.aload_n 0, 1) := by decide +kernel
theorem dX10_tellsFaces_6 : decode cX10_tellsFaces 6 = .ok (.iload_n 1, 1) := by decide +kernel
theorem dX10_tellsFaces_7 : decode cX10_tellsFaces 7 = .ok (.iconst 1, 1) := by decide +kernel
theorem dX10_tellsFaces_8 : decode cX10_tellsFaces 8 = .ok (.iconst 0, 1) := by decide +kernel
theorem dX10_tellsFaces_9 : decode cX10_tellsFaces 9 = .ok (.invokevirtual 227, 3) := by decide +kernel
theorem dX10_tellsFaces_12 : decode cX10_tellsFaces 12 = .ok (.iconst 1, 1) := by decide +kernel
theorem dX10_tellsFaces_13 : decode cX10_tellsFaces 13 = .ok (.istore_n 2, 1) := by decide +kernel
theorem dX10_tellsFaces_14 : decode cX10_tellsFaces 14 = .ok (.iload_n 2, 1) := by decide +kernel
theorem dX10_tellsFaces_15 : decode cX10_tellsFaces 15 = .ok (.bipush 10, 2) := by decide +kernel
theorem dX10_tellsFaces_17 : decode cX10_tellsFaces 17 = .ok (.if_icmp .ge 60, 3) := by decide +kernel
theorem dX10_tellsFaces_20 : decode cX10_tellsFaces 20 = .ok (.iconst 1, 1) := by decide +kernel
theorem dX10_tellsFaces_21 : decode cX10_tellsFaces 21 = .ok (.istore_n 3, 1) := by decide +kernel
theorem dX10_tellsFaces_22 : decode cX10_tellsFaces 22 = .ok (.iload_n 3, 1) := by decide +kernel
theorem dX10_tellsFaces_23 : decode cX10_tellsFaces 23 = .ok (.bipush 10, 2) := by decide +kernel
theorem dX10_tellsFaces_25 : decode cX10_tellsFaces 25 = .ok (.if_icmp .ge 46, 3) := by decide +kernel
theorem dX10_tellsFaces_28 : decode cX10_tellsFaces 28 = .ok (.iload_n 2, 1) := by decide +kernel
theorem dX10_tellsFaces_29 : decode cX10_tellsFaces 29 = .ok (.i2l, 1) := by decide +kernel
theorem dX10_tellsFaces_30 : decode cX10_tellsFaces 30 = .ok (.iload_n 3, 1) := by decide +kernel
theorem dX10_tellsFaces_31 : decode cX10_tellsFaces 31 = .ok (.i2l, 1) := by decide +kernel
theorem dX10_tellsFaces_32 : decode cX10_tellsFaces 32 = .ok (.invokestatic 121, 3) := by decide +kernel
theorem dX10_tellsFaces_35 : decode cX10_tellsFaces 35 = .ok (.lconst 1, 1) := by decide +kernel
theorem dX10_tellsFaces_36 : decode cX10_tellsFaces 36 = .ok (.lcmp, 1) := by decide +kernel
theorem dX10_tellsFaces_37 : decode cX10_tellsFaces 37 = .ok (.ifCond .ne 28, 3) := by decide +kernel
theorem dX10_tellsFaces_40 : decode cX10_tellsFaces 40 = .ok (.aload_n 0, 1) := by decide +kernel
theorem dX10_tellsFaces_41 : decode cX10_tellsFaces 41 = .ok (.iload_n 1, 1) := by decide +kernel
theorem dX10_tellsFaces_42 : decode cX10_tellsFaces 42 = .ok (.iload_n 2, 1) := by decide +kernel
theorem dX10_tellsFaces_43 : decode cX10_tellsFaces 43 = .ok (.iload_n 3, 1) := by decide +kernel
theorem dX10_tellsFaces_44 : decode cX10_tellsFaces 44 = .ok (.aload_n 0, 1) := by decide +kernel
theorem dX10_tellsFaces_45 : decode cX10_tellsFaces 45 = .ok (.iload_n 1, 1) := by decide +kernel
theorem dX10_tellsFaces_46 : decode cX10_tellsFaces 46 = .ok (.iload_n 2, 1) := by decide +kernel
theorem dX10_tellsFaces_47 : decode cX10_tellsFaces 47 = .ok (.iload_n 3, 1) := by decide +kernel
theorem dX10_tellsFaces_48 : decode cX10_tellsFaces 48 = .ok (.invokevirtual 224, 3) := by decide +kernel
theorem dX10_tellsFaces_51 : decode cX10_tellsFaces 51 = .ok (.invokevirtual 230, 3) := by decide +kernel
theorem dX10_tellsFaces_54 : decode cX10_tellsFaces 54 = .ok (.iconst 1, 1) := by decide +kernel
theorem dX10_tellsFaces_55 : decode cX10_tellsFaces 55 = .ok (.if_icmp .le 10, 3) := by decide +kernel
theorem dX10_tellsFaces_58 : decode cX10_tellsFaces 58 = .ok (.aload_n 0, 1) := by decide +kernel
theorem dX10_tellsFaces_59 : decode cX10_tellsFaces 59 = .ok (.iload_n 1, 1) := by decide +kernel
theorem dX10_tellsFaces_60 : decode cX10_tellsFaces 60 = .ok (.iload_n 2, 1) := by decide +kernel
theorem dX10_tellsFaces_61 : decode cX10_tellsFaces 61 = .ok (.iload_n 3, 1) := by decide +kernel
theorem dX10_tellsFaces_62 : decode cX10_tellsFaces 62 = .ok (.invokevirtual 227, 3) := by decide +kernel
theorem dX10_tellsFaces_65 : decode cX10_tellsFaces 65 = .ok (.iinc 3 1, 3) := by decide +kernel
theorem dX10_tellsFaces_68 : decode cX10_tellsFaces 68 = .ok (.goto (-46), 3) := by decide +kernel
theorem dX10_tellsFaces_71 : decode cX10_tellsFaces 71 = .ok (.iinc 2 1, 3) := by decide +kernel
theorem dX10_tellsFaces_74 : decode cX10_tellsFaces 74 = .ok (.goto (-60), 3) := by decide +kernel
theorem dX10_tellsFaces_77 : decode cX10_tellsFaces 77 = .ok (.aload_n 0, 1) := by decide +kernel
theorem dX10_tellsFaces_78 : decode cX10_tellsFaces 78 = .ok (.iload_n 1, 1) := by decide +kernel
theorem dX10_tellsFaces_79 : decode cX10_tellsFaces 79 = .ok (.iconst 0, 1) := by decide +kernel
theorem dX10_tellsFaces_80 : decode cX10_tellsFaces 80 = .ok (.iconst 1, 1) := by decide +kernel
theorem dX10_tellsFaces_81 : decode cX10_tellsFaces 81 = .ok (.invokevirtual 227, 3) := by decide +kernel
theorem dX10_tellsFaces_84 : decode cX10_tellsFaces 84 = .ok (.return_, 1) := by decide +kernel
theorem dX10_isInHull_0 : decode cX10_isInHull 0 = .ok (.iconst 1, 1) := by decide +kernel
theorem dX10_isInHull_1 : decode cX10_isInHull 1 = .ok (.istore_n 3, 1) := by decide +kernel
theorem dX10_isInHull_2 : decode cX10_isInHull 2 = .ok (.iconst 0, 1) := by decide +kernel
theorem dX10_isInHull_3 : decode cX10_isInHull 3 = .ok (.istore 4, 2) := by decide +kernel
theorem dX10_isInHull_5 : decode cX10_isInHull 5 = .ok (.iload 4, 2) := by decide +kernel
theorem dX10_isInHull_7 : decode cX10_isInHull 7 = .ok (.aload_n 0, 1) := by decide +kernel
theorem dX10_isInHull_8 : decode cX10_isInHull 8 = .ok (.getfield 221, 3) := by decide +kernel
theorem dX10_isInHull_11 : decode cX10_isInHull 11 = .ok (.if_icmp .ge 48, 3) := by decide +kernel
theorem dX10_isInHull_14 : decode cX10_isInHull 14 = .ok (.iload_n 3, 1) := by decide +kernel
theorem dX10_isInHull_15 : decode cX10_isInHull 15 = .ok (.ifCond .eq 36, 3) := by decide +kernel
theorem dX10_isInHull_18 : decode cX10_isInHull 18 = .ok (.aload_n 0, 1) := by decide +kernel
theorem dX10_isInHull_19 : decode cX10_isInHull 19 = .ok (.getfield 39, 3) := by decide +kernel
theorem dX10_isInHull_22 : decode cX10_isInHull 22 = .ok (.iload 4, 2) := by decide +kernel
theorem dX10_isInHull_24 : decode cX10_isInHull 24 = .ok (.iaload, 1) := by decide +kernel
theorem dX10_isInHull_25 : decode cX10_isInHull 25 = .ok (.iload_n 1, 1) := by decide +kernel
theorem dX10_isInHull_26 : decode cX10_isInHull 26 = .ok (.imul, 1) := by decide +kernel
theorem dX10_isInHull_27 : decode cX10_isInHull 27 = .ok (.aload_n 0, 1) := by decide +kernel
theorem dX10_isInHull_28 : decode cX10_isInHull 28 = .ok (.getfield 42, 3) := by decide +kernel
theorem dX10_isInHull_31 : decode cX10_isInHull 31 = .ok (.iload 4, 2) := by decide +kernel
theorem dX10_isInHull_33 : decode cX10_isInHull 33 = .ok (.iaload, 1) := by decide +kernel
theorem dX10_isInHull_34 : decode cX10_isInHull 34 = .ok (.iload_n 2, 1) := by decide +kernel
theorem dX10_isInHull_35 : decode cX10_isInHull 35 = .ok (.imul, 1) := by decide +kernel
theorem dX10_isInHull_36 : decode cX10_isInHull 36 = .ok (.iadd, 1) := by decide +kernel
theorem dX10_isInHull_37 : decode cX10_isInHull 37 = .ok (.aload_n 0, 1) := by decide +kernel
theorem dX10_isInHull_38 : decode cX10_isInHull 38 = .ok (.getfield 45, 3) := by decide +kernel
theorem dX10_isInHull_41 : decode cX10_isInHull 41 = .ok (.iload 4, 2) := by decide +kernel
theorem dX10_isInHull_43 : decode cX10_isInHull 43 = .ok (.iaload, 1) := by decide +kernel
theorem dX10_isInHull_44 : decode cX10_isInHull 44 = .ok (.if_icmp .lt 7, 3) := by decide +kernel
theorem dX10_isInHull_47 : decode cX10_isInHull 47 = .ok (.iconst 1, 1) := by decide +kernel
theorem dX10_isInHull_48 : decode cX10_isInHull 48 = .ok (.goto 4, 3) := by decide +kernel
theorem dX10_isInHull_51 : decode cX10_isInHull 51 = .ok (.iconst 0, 1) := by decide +kernel
theorem dX10_isInHull_52 : decode cX10_isInHull 52 = .ok (.istore_n 3, 1) := by decide +kernel
theorem dX10_isInHull_53 : decode cX10_isInHull 53 = .ok (.iinc 4 1, 3) := by decide +kernel
theorem dX10_isInHull_56 : decode cX10_isInHull 56 = .ok (.goto (-51), 3) := by decide +kernel
theorem dX10_isInHull_59 : decode cX10_isInHull 59 = .ok (.iload_n 3, 1) := by decide +kernel
theorem dX10_isInHull_60 : decode cX10_isInHull 60 = .ok (.ireturn, 1) := by decide +kernel
theorem dX10_isWithin_0 : decode cX10_isWithin 0 = .ok (.iconst 0, 1) := by decide +kernel
theorem dX10_isWithin_1 : decode cX10_isWithin 1 = .ok (.istore 4, 2) := by decide +kernel
theorem dX10_isWithin_3 : decode cX10_isWithin 3 = .ok (.iconst 0, 1) := by decide +kernel
theorem dX10_isWithin_4 : decode cX10_isWithin 4 = .ok (.istore 5, 2) := by decide +kernel
theorem dX10_isWithin_6 : decode cX10_isWithin 6 = .ok (.iload 5, 2) := by decide +kernel
theorem dX10_isWithin_8 : decode cX10_isWithin 8 = .ok (.aload_n 0, 1) := by decide +kernel
theorem dX10_isWithin_9 : decode cX10_isWithin 9 = .ok (.getfield 11, 3) := by decide +kernel
theorem dX10_isWithin_12 : decode cX10_isWithin 12 = .ok (.iload_n 1, 1) := by decide +kernel
theorem dX10_isWithin_13 : decode cX10_isWithin 13 = .ok (.iaload, 1) := by decide +kernel
theorem dX10_isWithin_14 : decode cX10_isWithin 14 = .ok (.if_icmp .ge 43, 3) := by decide +kernel
theorem dX10_isWithin_17 : decode cX10_isWithin 17 = .ok (.iload 4, 2) := by decide +kernel
theorem dX10_isWithin_19 : decode cX10_isWithin 19 = .ok (.ifCond .ne 25, 3) := by decide +kernel
theorem dX10_isWithin_22 : decode cX10_isWithin 22 = .ok (.aload_n 0, 1) := by decide +kernel
theorem dX10_isWithin_23 : decode cX10_isWithin 23 = .ok (.iload_n 1, 1) := by decide +kernel
theorem dX10_isWithin_24 : decode cX10_isWithin 24 = .ok (.iload 5, 2) := by decide +kernel
theorem dX10_isWithin_26 : decode cX10_isWithin 26 = .ok (.invokevirtual 125, 3) := by decide +kernel
theorem dX10_isWithin_29 : decode cX10_isWithin 29 = .ok (.iload_n 2, 1) := by decide +kernel
theorem dX10_isWithin_30 : decode cX10_isWithin 30 = .ok (.if_icmp .gt 18, 3) := by decide +kernel
theorem dX10_isWithin_33 : decode cX10_isWithin 33 = .ok (.aload_n 0, 1) := by decide +kernel
theorem dX10_isWithin_34 : decode cX10_isWithin 34 = .ok (.iload_n 1, 1) := by decide +kernel
theorem dX10_isWithin_35 : decode cX10_isWithin 35 = .ok (.iload 5, 2) := by decide +kernel
theorem dX10_isWithin_37 : decode cX10_isWithin 37 = .ok (.invokevirtual 129, 3) := by decide +kernel
theorem dX10_isWithin_40 : decode cX10_isWithin 40 = .ok (.iload_n 3, 1) := by decide +kernel
theorem dX10_isWithin_41 : decode cX10_isWithin 41 = .ok (.if_icmp .gt 7, 3) := by decide +kernel
theorem dX10_isWithin_44 : decode cX10_isWithin 44 = .ok (.iconst 1, 1) := by decide +kernel
theorem dX10_isWithin_45 : decode cX10_isWithin 45 = .ok (.goto 4, 3) := by decide +kernel
theorem dX10_isWithin_48 : decode cX10_isWithin 48 = .ok (.iconst 0, 1) := by decide +kernel
theorem dX10_isWithin_49 : decode cX10_isWithin 49 = .ok (.istore 4, 2) := by decide +kernel
theorem dX10_isWithin_51 : decode cX10_isWithin 51 = .ok (.iinc 5 1, 3) := by decide +kernel
theorem dX10_isWithin_54 : decode cX10_isWithin 54 = .ok (.goto (-48), 3) := by decide +kernel
theorem dX10_isWithin_57 : decode cX10_isWithin 57 = .ok (.iload 4, 2) := by decide +kernel
theorem dX10_isWithin_59 : decode cX10_isWithin 59 = .ok (.ireturn, 1) := by decide +kernel
theorem dX10_isClosed_0 : decode cX10_isClosed 0 = .ok (.aload_n 0, 1) := by decide +kernel
theorem dX10_isClosed_1 : decode cX10_isClosed 1 = .ok (.iload_n 1, 1) := by decide +kernel
theorem dX10_isClosed_2 : decode cX10_isClosed 2 = .ok (.invokevirtual 166, 3) := by decide +kernel
theorem dX10_isClosed_5 : decode cX10_isClosed 5 = .ok (.iconst 1, 1) := by decide +kernel
theorem dX10_isClosed_6 : decode cX10_isClosed 6 = .ok (.istore_n 2, 1) := by decide +kernel
theorem dX10_isClosed_7 : decode cX10_isClosed 7 = .ok (.iconst 0, 1) := by decide +kernel
theorem dX10_isClosed_8 : decode cX10_isClosed 8 = .ok (.istore_n 3, 1) := by decide +kernel
theorem dX10_isClosed_9 : decode cX10_isClosed 9 = .ok (.iload_n 3, 1) := by decide +kernel
theorem dX10_isClosed_10 : decode cX10_isClosed 10 = .ok (.bipush 100, 2) := by decide +kernel
theorem dX10_isClosed_12 : decode cX10_isClosed 12 = .ok (.if_icmp .ge 50, 3) := by decide +kernel
theorem dX10_isClosed_15 : decode cX10_isClosed 15 = .ok (.iload_n 2, 1) := by decide +kernel
theorem dX10_isClosed_16 : decode cX10_isClosed 16 = .ok (.ifCond .eq 38, 3) := by decide +kernel
theorem dX10_isClosed_19 : decode cX10_isClosed 19 = .ok (.aload_n 0, 1) := by decide +kernel
theorem dX10_isClosed_20 : decode cX10_isClosed 20 = .ok (.iload_n 3, 1) := by decide +kernel
theorem dX10_isClosed_21 : decode cX10_isClosed 21 = .ok (.bipush 10, 2) := by decide +kernel
theorem dX10_isClosed_23 : decode cX10_isClosed 23 = .ok (.idiv, 1) := by decide +kernel
theorem dX10_isClosed_24 : decode cX10_isClosed 24 = .ok (.iload_n 3, 1) := by decide +kernel
theorem dX10_isClosed_25 : decode cX10_isClosed 25 = .ok (.bipush 10, 2) := by decide +kernel
theorem dX10_isClosed_27 : decode cX10_isClosed 27 = .ok (.irem, 1) := by decide +kernel
theorem dX10_isClosed_28 : decode cX10_isClosed 28 = .ok (.invokevirtual 163, 3) := by decide +kernel
theorem dX10_isClosed_31 : decode cX10_isClosed 31 = .ok (.ifCond .eq 19, 3) := by decide +kernel
theorem dX10_isClosed_34 : decode cX10_isClosed 34 = .ok (.aload_n 0, 1) := by decide +kernel
theorem dX10_isClosed_35 : decode cX10_isClosed 35 = .ok (.iload_n 1, 1) := by decide +kernel
theorem dX10_isClosed_36 : decode cX10_isClosed 36 = .ok (.iload_n 3, 1) := by decide +kernel
theorem dX10_isClosed_37 : decode cX10_isClosed 37 = .ok (.bipush 10, 2) := by decide +kernel
theorem dX10_isClosed_39 : decode cX10_isClosed 39 = .ok (.idiv, 1) := by decide +kernel
theorem dX10_isClosed_40 : decode cX10_isClosed 40 = .ok (.iload_n 3, 1) := by decide +kernel
theorem dX10_isClosed_41 : decode cX10_isClosed 41 = .ok (.bipush 10, 2) := by decide +kernel
theorem dX10_isClosed_43 : decode cX10_isClosed 43 = .ok (.irem, 1) := by decide +kernel
theorem dX10_isClosed_44 : decode cX10_isClosed 44 = .ok (.invokevirtual 234, 3) := by decide +kernel
theorem dX10_isClosed_47 : decode cX10_isClosed 47 = .ok (.ifCond .eq 7, 3) := by decide +kernel
theorem dX10_isClosed_50 : decode cX10_isClosed 50 = .ok (.iconst 1, 1) := by decide +kernel
theorem dX10_isClosed_51 : decode cX10_isClosed 51 = .ok (.goto 4, 3) := by decide +kernel
theorem dX10_isClosed_54 : decode cX10_isClosed 54 = .ok (.iconst 0, 1) := by decide +kernel
theorem dX10_isClosed_55 : decode cX10_isClosed 55 = .ok (.istore_n 2, 1) := by decide +kernel
theorem dX10_isClosed_56 : decode cX10_isClosed 56 = .ok (.iinc 3 1, 3) := by decide +kernel
theorem dX10_isClosed_59 : decode cX10_isClosed 59 = .ok (.goto (-50), 3) := by decide +kernel
theorem dX10_isClosed_62 : decode cX10_isClosed 62 = .ok (.iload_n 2, 1) := by decide +kernel
theorem dX10_isClosed_63 : decode cX10_isClosed 63 = .ok (.ireturn, 1) := by decide +kernel
theorem dX10_isLeast_0 : decode cX10_isLeast 0 = .ok (.iconst 1, 1) := by decide +kernel
theorem dX10_isLeast_1 : decode cX10_isLeast 1 = .ok (.istore_n 3, 1) := by decide +kernel
theorem dX10_isLeast_2 : decode cX10_isLeast 2 = .ok (.iconst 0, 1) := by decide +kernel
theorem dX10_isLeast_3 : decode cX10_isLeast 3 = .ok (.istore 4, 2) := by decide +kernel
theorem dX10_isLeast_5 : decode cX10_isLeast 5 = .ok (.iload 4, 2) := by decide +kernel
theorem dX10_isLeast_7 : decode cX10_isLeast 7 = .ok (.aload_n 0, 1) := by decide +kernel
theorem dX10_isLeast_8 : decode cX10_isLeast 8 = .ok (.getfield 11, 3) := by decide +kernel
theorem dX10_isLeast_11 : decode cX10_isLeast 11 = .ok (.iload_n 1, 1) := by decide +kernel
theorem dX10_isLeast_12 : decode cX10_isLeast 12 = .ok (.iaload, 1) := by decide +kernel
theorem dX10_isLeast_13 : decode cX10_isLeast 13 = .ok (.if_icmp .ge 57, 3) := by decide +kernel
theorem dX10_isLeast_16 : decode cX10_isLeast 16 = .ok (.iload_n 3, 1) := by decide +kernel
theorem dX10_isLeast_17 : decode cX10_isLeast 17 = .ok (.ifCond .eq 45, 3) := by decide +kernel
theorem dX10_isLeast_20 : decode cX10_isLeast 20 = .ok (.iload 4, 2) := by decide +kernel
theorem dX10_isLeast_22 : decode cX10_isLeast 22 = .ok (.iload_n 2, 1) := by decide +kernel
theorem dX10_isLeast_23 : decode cX10_isLeast 23 = .ok (.if_icmp .eq 35, 3) := by decide +kernel
theorem dX10_isLeast_26 : decode cX10_isLeast 26 = .ok (.aload_n 0, 1) := by decide +kernel
theorem dX10_isLeast_27 : decode cX10_isLeast 27 = .ok (.iload_n 1, 1) := by decide +kernel
theorem dX10_isLeast_28 : decode cX10_isLeast 28 = .ok (.iload 4, 2) := by decide +kernel
theorem dX10_isLeast_30 : decode cX10_isLeast 30 = .ok (.invokevirtual 125, 3) := by decide +kernel
theorem dX10_isLeast_33 : decode cX10_isLeast 33 = .ok (.aload_n 0, 1) := by decide +kernel
theorem dX10_isLeast_34 : decode cX10_isLeast 34 = .ok (.iload_n 1, 1) := by decide +kernel
theorem dX10_isLeast_35 : decode cX10_isLeast 35 = .ok (.iload_n 2, 1) := by decide +kernel
theorem dX10_isLeast_36 : decode cX10_isLeast 36 = .ok (.invokevirtual 125, 3) := by decide +kernel
theorem dX10_isLeast_39 : decode cX10_isLeast 39 = .ok (.if_icmp .gt 19, 3) := by decide +kernel
theorem dX10_isLeast_42 : decode cX10_isLeast 42 = .ok (.aload_n 0, 1) := by decide +kernel
theorem dX10_isLeast_43 : decode cX10_isLeast 43 = .ok (.iload_n 1, 1) := by decide +kernel
theorem dX10_isLeast_44 : decode cX10_isLeast 44 = .ok (.iload 4, 2) := by decide +kernel
theorem dX10_isLeast_46 : decode cX10_isLeast 46 = .ok (.invokevirtual 129, 3) := by decide +kernel
theorem dX10_isLeast_49 : decode cX10_isLeast 49 = .ok (.aload_n 0, 1) := by decide +kernel
theorem dX10_isLeast_50 : decode cX10_isLeast 50 = .ok (.iload_n 1, 1) := by decide +kernel
theorem dX10_isLeast_51 : decode cX10_isLeast 51 = .ok (.iload_n 2, 1) := by decide +kernel
theorem dX10_isLeast_52 : decode cX10_isLeast 52 = .ok (.invokevirtual 129, 3) := by decide +kernel
theorem dX10_isLeast_55 : decode cX10_isLeast 55 = .ok (.if_icmp .le 7, 3) := by decide +kernel
theorem dX10_isLeast_58 : decode cX10_isLeast 58 = .ok (.iconst 1, 1) := by decide +kernel
theorem dX10_isLeast_59 : decode cX10_isLeast 59 = .ok (.goto 4, 3) := by decide +kernel
theorem dX10_isLeast_62 : decode cX10_isLeast 62 = .ok (.iconst 0, 1) := by decide +kernel
theorem dX10_isLeast_63 : decode cX10_isLeast 63 = .ok (.istore_n 3, 1) := by decide +kernel
theorem dX10_isLeast_64 : decode cX10_isLeast 64 = .ok (.iinc 4 1, 3) := by decide +kernel
theorem dX10_isLeast_67 : decode cX10_isLeast 67 = .ok (.goto (-62), 3) := by decide +kernel
theorem dX10_isLeast_70 : decode cX10_isLeast 70 = .ok (.iload_n 3, 1) := by decide +kernel
theorem dX10_isLeast_71 : decode cX10_isLeast 71 = .ok (.ireturn, 1) := by decide +kernel
theorem dX10_leastMany_0 : decode cX10_leastMany 0 = .ok (.iconst 0, 1) := by decide +kernel
theorem dX10_leastMany_1 : decode cX10_leastMany 1 = .ok (.istore_n 2, 1) := by decide +kernel
theorem dX10_leastMany_2 : decode cX10_leastMany 2 = .ok (.iconst 0, 1) := by decide +kernel
theorem dX10_leastMany_3 : decode cX10_leastMany 3 = .ok (.istore_n 3, 1) := by decide +kernel
theorem dX10_leastMany_4 : decode cX10_leastMany 4 = .ok (.iload_n 3, 1) := by decide +kernel
theorem dX10_leastMany_5 : decode cX10_leastMany 5 = .ok (.aload_n 0, 1) := by decide +kernel
theorem dX10_leastMany_6 : decode cX10_leastMany 6 = .ok (.getfield 11, 3) := by decide +kernel
theorem dX10_leastMany_9 : decode cX10_leastMany 9 = .ok (.iload_n 1, 1) := by decide +kernel
theorem dX10_leastMany_10 : decode cX10_leastMany 10 = .ok (.iaload, 1) := by decide +kernel
theorem dX10_leastMany_11 : decode cX10_leastMany 11 = .ok (.if_icmp .ge 26, 3) := by decide +kernel
theorem dX10_leastMany_14 : decode cX10_leastMany 14 = .ok (.iload_n 2, 1) := by decide +kernel
theorem dX10_leastMany_15 : decode cX10_leastMany 15 = .ok (.aload_n 0, 1) := by decide +kernel
theorem dX10_leastMany_16 : decode cX10_leastMany 16 = .ok (.iload_n 1, 1) := by decide +kernel
theorem dX10_leastMany_17 : decode cX10_leastMany 17 = .ok (.iload_n 3, 1) := by decide +kernel
theorem dX10_leastMany_18 : decode cX10_leastMany 18 = .ok (.invokevirtual 238, 3) := by decide +kernel
theorem dX10_leastMany_21 : decode cX10_leastMany 21 = .ok (.ifCond .eq 7, 3) := by decide +kernel
theorem dX10_leastMany_24 : decode cX10_leastMany 24 = .ok (.iconst 1, 1) := by decide +kernel
theorem dX10_leastMany_25 : decode cX10_leastMany 25 = .ok (.goto 4, 3) := by decide +kernel
theorem dX10_leastMany_28 : decode cX10_leastMany 28 = .ok (.iconst 0, 1) := by decide +kernel
theorem dX10_leastMany_29 : decode cX10_leastMany 29 = .ok (.iadd, 1) := by decide +kernel
theorem dX10_leastMany_30 : decode cX10_leastMany 30 = .ok (.istore_n 2, 1) := by decide +kernel
theorem dX10_leastMany_31 : decode cX10_leastMany 31 = .ok (.iinc 3 1, 3) := by decide +kernel
theorem dX10_leastMany_34 : decode cX10_leastMany 34 = .ok (.goto (-30), 3) := by decide +kernel
theorem dX10_leastMany_37 : decode cX10_leastMany 37 = .ok (.iload_n 2, 1) := by decide +kernel
theorem dX10_leastMany_38 : decode cX10_leastMany 38 = .ok (.ireturn, 1) := by decide +kernel
theorem dX10_of_0 : decode cX10_of 0 = .ok (.aload_n 0, 1) := by decide +kernel
theorem dX10_of_1 : decode cX10_of 1 = .ok (.iload_n 1, 1) := by decide +kernel
theorem dX10_of_2 : decode cX10_of 2 = .ok (.iload_n 2, 1) := by decide +kernel
theorem dX10_of_3 : decode cX10_of 3 = .ok (.invokevirtual 155, 3) := by decide +kernel
theorem dX10_of_6 : decode cX10_of 6 = .ok (.ifCond .eq 15, 3) := by decide +kernel
theorem dX10_of_9 : decode cX10_of 9 = .ok (.iload_n 3, 1) := by decide +kernel
theorem dX10_of_10 : decode cX10_of 10 = .ok (.i2l, 1) := by decide +kernel
theorem dX10_of_11 : decode cX10_of 11 = .ok (.lconst 0, 1) := by decide +kernel
theorem dX10_of_12 : decode cX10_of 12 = .ok (.ldc2_w 241, 3) := by decide +kernel
theorem dX10_of_15 : decode cX10_of 15 = .ok (.invokestatic 115, 3) := by decide +kernel
theorem dX10_of_18 : decode cX10_of 18 = .ok (.ifCond .ne 5, 3) := by decide +kernel
theorem dX10_of_21 : decode cX10_of 21 = .ok (.iconst (-1), 1) := by decide +kernel
theorem dX10_of_22 : decode cX10_of 22 = .ok (.ireturn, 1) := by decide +kernel
theorem dX10_of_23 : decode cX10_of 23 = .ok (.iload_n 3, 1) := by decide +kernel
theorem dX10_of_24 : decode cX10_of 24 = .ok (.ifCond .ne 12, 3) := by decide +kernel
theorem dX10_of_27 : decode cX10_of 27 = .ok (.aload_n 0, 1) := by decide +kernel
theorem dX10_of_28 : decode cX10_of 28 = .ok (.iload_n 1, 1) := by decide +kernel
theorem dX10_of_29 : decode cX10_of 29 = .ok (.iload_n 2, 1) := by decide +kernel
theorem dX10_of_30 : decode cX10_of 30 = .ok (.invokevirtual 125, 3) := by decide +kernel
theorem dX10_of_33 : decode cX10_of 33 = .ok (.goto 31, 3) := by decide +kernel
theorem dX10_of_36 : decode cX10_of 36 = .ok (.iload_n 3, 1) := by decide +kernel
theorem dX10_of_37 : decode cX10_of 37 = .ok (.iconst 1, 1) := by decide +kernel
theorem dX10_of_38 : decode cX10_of 38 = .ok (.if_icmp .ne 12, 3) := by decide +kernel
theorem dX10_of_41 : decode cX10_of 41 = .ok (.aload_n 0, 1) := by decide +kernel
theorem dX10_of_42 : decode cX10_of 42 = .ok (.iload_n 1, 1) := by decide +kernel
theorem dX10_of_43 : decode cX10_of 43 = .ok (.iload_n 2, 1) := by decide +kernel
theorem dX10_of_44 : decode cX10_of 44 = .ok (.invokevirtual 129, 3) := by decide +kernel
theorem dX10_of_47 : decode cX10_of 47 = .ok (.goto 17, 3) := by decide +kernel
theorem dX10_of_50 : decode cX10_of 50 = .ok (.aload_n 0, 1) := by decide +kernel
theorem dX10_of_51 : decode cX10_of 51 = .ok (.iload_n 1, 1) := by decide +kernel
theorem dX10_of_52 : decode cX10_of 52 = .ok (.iload_n 2, 1) := by decide +kernel
theorem dX10_of_53 : decode cX10_of 53 = .ok (.invokevirtual 238, 3) := by decide +kernel
theorem dX10_of_56 : decode cX10_of 56 = .ok (.ifCond .eq 7, 3) := by decide +kernel
theorem dX10_of_59 : decode cX10_of 59 = .ok (.iconst 1, 1) := by decide +kernel
theorem dX10_of_60 : decode cX10_of 60 = .ok (.goto 4, 3) := by decide +kernel
theorem dX10_of_63 : decode cX10_of 63 = .ok (.iconst 0, 1) := by decide +kernel
theorem dX10_of_64 : decode cX10_of 64 = .ok (.ireturn, 1) := by decide +kernel
theorem dX10_told_0 : decode cX10_told 0 = .ok (.iload_n 1, 1) := by decide +kernel
theorem dX10_told_1 : decode cX10_told 1 = .ok (.invokestatic 136, 3) := by decide +kernel
theorem dX10_told_4 : decode cX10_told 4 = .ok (.ifCond .eq 15, 3) := by decide +kernel
theorem dX10_told_7 : decode cX10_told 7 = .ok (.iload_n 2, 1) := by decide +kernel
theorem dX10_told_8 : decode cX10_told 8 = .ok (.i2l, 1) := by decide +kernel
theorem dX10_told_9 : decode cX10_told 9 = .ok (.lconst 0, 1) := by decide +kernel
theorem dX10_told_10 : decode cX10_told 10 = .ok (.ldc2_w 243, 3) := by decide +kernel
theorem dX10_told_13 : decode cX10_told 13 = .ok (.invokestatic 115, 3) := by decide +kernel
theorem dX10_told_16 : decode cX10_told 16 = .ok (.ifCond .ne 5, 3) := by decide +kernel
theorem dX10_told_19 : decode cX10_told 19 = .ok (.iconst (-1), 1) := by decide +kernel
theorem dX10_told_20 : decode cX10_told 20 = .ok (.ireturn, 1) := by decide +kernel
theorem dX10_told_21 : decode cX10_told 21 = .ok (.iload_n 2, 1) := by decide +kernel
theorem dX10_told_22 : decode cX10_told 22 = .ok (.iconst 2, 1) := by decide +kernel
theorem dX10_told_23 : decode cX10_told 23 = .ok (.if_icmp .ge 22, 3) := by decide +kernel
theorem dX10_told_26 : decode cX10_told 26 = .ok (.iload_n 2, 1) := by decide +kernel
theorem dX10_told_27 : decode cX10_told 27 = .ok (.ifCond .ne 12, 3) := by decide +kernel
theorem dX10_told_30 : decode cX10_told 30 = .ok (.aload_n 0, 1) := by decide +kernel
theorem dX10_told_31 : decode cX10_told 31 = .ok (.getfield 11, 3) := by decide +kernel
theorem dX10_told_34 : decode cX10_told 34 = .ok (.iload_n 1, 1) := by decide +kernel
theorem dX10_told_35 : decode cX10_told 35 = .ok (.iaload, 1) := by decide +kernel
theorem dX10_told_36 : decode cX10_told 36 = .ok (.goto 8, 3) := by decide +kernel
theorem dX10_told_39 : decode cX10_told 39 = .ok (.aload_n 0, 1) := by decide +kernel
theorem dX10_told_40 : decode cX10_told 40 = .ok (.iload_n 1, 1) := by decide +kernel
theorem dX10_told_41 : decode cX10_told 41 = .ok (.invokevirtual 245, 3) := by decide +kernel
theorem dX10_told_44 : decode cX10_told 44 = .ok (.ireturn, 1) := by decide +kernel
theorem dX10_told_45 : decode cX10_told 45 = .ok (.aload_n 0, 1) := by decide +kernel
theorem dX10_told_46 : decode cX10_told 46 = .ok (.getfield 11, 3) := by decide +kernel
theorem dX10_told_49 : decode cX10_told 49 = .ok (.iload_n 1, 1) := by decide +kernel
theorem dX10_told_50 : decode cX10_told 50 = .ok (.iaload, 1) := by decide +kernel
theorem dX10_told_51 : decode cX10_told 51 = .ok (.ifCond .ne 6, 3) := by decide +kernel
theorem dX10_told_54 : decode cX10_told 54 = .ok (.bipush (-3), 2) := by decide +kernel
theorem dX10_told_56 : decode cX10_told 56 = .ok (.ireturn, 1) := by decide +kernel
theorem dX10_told_57 : decode cX10_told 57 = .ok (.aload_n 0, 1) := by decide +kernel
theorem dX10_told_58 : decode cX10_told 58 = .ok (.iload_n 1, 1) := by decide +kernel
theorem dX10_told_59 : decode cX10_told 59 = .ok (.iload_n 2, 1) := by decide +kernel
theorem dX10_told_60 : decode cX10_told 60 = .ok (.invokevirtual 248, 3) := by decide +kernel
theorem dX10_told_63 : decode cX10_told 63 = .ok (.ireturn, 1) := by decide +kernel
theorem dX10_asked_0 : decode cX10_asked 0 = .ok (.iload_n 2, 1) := by decide +kernel
theorem dX10_asked_1 : decode cX10_asked 1 = .ok (.iconst 3, 1) := by decide +kernel
theorem dX10_asked_2 : decode cX10_asked 2 = .ok (.if_icmp .ne 17, 3) := by decide +kernel
theorem dX10_asked_5 : decode cX10_asked 5 = .ok (.aload_n 0, 1) := by decide +kernel
theorem dX10_asked_6 : decode cX10_asked 6 = .ok (.iload_n 1, 1) := by decide +kernel
theorem dX10_asked_7 : decode cX10_asked 7 = .ok (.invokevirtual 251, 3) := by decide +kernel
theorem dX10_asked_10 : decode cX10_asked 10 = .ok (.ifCond .eq 7, 3) := by decide +kernel
theorem dX10_asked_13 : decode cX10_asked 13 = .ok (.iconst 1, 1) := by decide +kernel
theorem dX10_asked_14 : decode cX10_asked 14 = .ok (.goto 4, 3) := by decide +kernel
theorem dX10_asked_17 : decode cX10_asked 17 = .ok (.iconst 0, 1) := by decide +kernel
theorem dX10_asked_18 : decode cX10_asked 18 = .ok (.ireturn, 1) := by decide +kernel
theorem dX10_asked_19 : decode cX10_asked 19 = .ok (.aload_n 0, 1) := by decide +kernel
theorem dX10_asked_20 : decode cX10_asked 20 = .ok (.iload_n 1, 1) := by decide +kernel
theorem dX10_asked_21 : decode cX10_asked 21 = .ok (.invokevirtual 166, 3) := by decide +kernel
theorem dX10_asked_24 : decode cX10_asked 24 = .ok (.iload_n 2, 1) := by decide +kernel
theorem dX10_asked_25 : decode cX10_asked 25 = .ok (.iconst 2, 1) := by decide +kernel
theorem dX10_asked_26 : decode cX10_asked 26 = .ok (.if_icmp .ne 8, 3) := by decide +kernel
theorem dX10_asked_29 : decode cX10_asked 29 = .ok (.aload_n 0, 1) := by decide +kernel
theorem dX10_asked_30 : decode cX10_asked 30 = .ok (.getfield 221, 3) := by decide +kernel
theorem dX10_asked_33 : decode cX10_asked 33 = .ok (.ireturn, 1) := by decide +kernel
theorem dX10_asked_34 : decode cX10_asked 34 = .ok (.aload_n 0, 1) := by decide +kernel
theorem dX10_asked_35 : decode cX10_asked 35 = .ok (.invokevirtual 254, 3) := by decide +kernel
theorem dX10_asked_38 : decode cX10_asked 38 = .ok (.aload_n 0, 1) := by decide +kernel
theorem dX10_asked_39 : decode cX10_asked 39 = .ok (.getfield 257, 3) := by decide +kernel
theorem dX10_asked_42 : decode cX10_asked 42 = .ok (.ireturn, 1) := by decide +kernel
theorem dX10_in_0 : decode cX10_in 0 = .ok (.iload_n 1, 1) := by decide +kernel
theorem dX10_in_1 : decode cX10_in 1 = .ok (.invokestatic 136, 3) := by decide +kernel
theorem dX10_in_4 : decode cX10_in 4 = .ok (.ifCond .eq 14, 3) := by decide +kernel
theorem dX10_in_7 : decode cX10_in 7 = .ok (.iload 4, 2) := by decide +kernel
theorem dX10_in_9 : decode cX10_in 9 = .ok (.i2l, 1) := by decide +kernel
theorem dX10_in_10 : decode cX10_in 10 = .ok (.lconst 0, 1) := by decide +kernel
theorem dX10_in_11 : decode cX10_in 11 = .ok (.lconst 1, 1) := by decide +kernel
theorem dX10_in_12 : decode cX10_in 12 = .ok (.invokestatic 115, 3) := by decide +kernel
theorem dX10_in_15 : decode cX10_in 15 = .ok (.ifCond .ne 5, 3) := by decide +kernel
theorem dX10_in_18 : decode cX10_in 18 = .ok (.iconst (-1), 1) := by decide +kernel
theorem dX10_in_19 : decode cX10_in 19 = .ok (.ireturn, 1) := by decide +kernel
theorem dX10_in_20 : decode cX10_in 20 = .ok (.iload_n 2, 1) := by decide +kernel
theorem dX10_in_21 : decode cX10_in 21 = .ok (.invokestatic 140, 3) := by decide +kernel
theorem dX10_in_24 : decode cX10_in 24 = .ok (.ifCond .eq 10, 3) := by decide +kernel
theorem dX10_in_27 : decode cX10_in 27 = .ok (.iload_n 3, 1) := by decide +kernel
theorem dX10_in_28 : decode cX10_in 28 = .ok (.invokestatic 140, 3) := by decide +kernel
theorem dX10_in_31 : decode cX10_in 31 = .ok (.ifCond .ne 6, 3) := by decide +kernel
theorem dX10_in_34 : decode cX10_in 34 = .ok (.bipush (-2), 2) := by decide +kernel
theorem dX10_in_36 : decode cX10_in 36 = .ok (.ireturn, 1) := by decide +kernel
theorem dX10_in_37 : decode cX10_in 37 = .ok (.iload 4, 2) := by decide +kernel
theorem dX10_in_39 : decode cX10_in 39 = .ok (.ifCond .ne 19, 3) := by decide +kernel
theorem dX10_in_42 : decode cX10_in 42 = .ok (.aload_n 0, 1) := by decide +kernel
theorem dX10_in_43 : decode cX10_in 43 = .ok (.iload_n 1, 1) := by decide +kernel
theorem dX10_in_44 : decode cX10_in 44 = .ok (.iload_n 2, 1) := by decide +kernel
theorem dX10_in_45 : decode cX10_in 45 = .ok (.iload_n 3, 1) := by decide +kernel
theorem dX10_in_46 : decode cX10_in 46 = .ok (.invokevirtual 234, 3) := by decide +kernel
theorem dX10_in_49 : decode cX10_in 49 = .ok (.ifCond .eq 7, 3) := by decide +kernel
theorem dX10_in_52 : decode cX10_in 52 = .ok (.iconst 1, 1) := by decide +kernel
theorem dX10_in_53 : decode cX10_in 53 = .ok (.goto 4, 3) := by decide +kernel
theorem dX10_in_56 : decode cX10_in 56 = .ok (.iconst 0, 1) := by decide +kernel
theorem dX10_in_57 : decode cX10_in 57 = .ok (.ireturn, 1) := by decide +kernel
theorem dX10_in_58 : decode cX10_in 58 = .ok (.aload_n 0, 1) := by decide +kernel
theorem dX10_in_59 : decode cX10_in 59 = .ok (.getfield 11, 3) := by decide +kernel
theorem dX10_in_62 : decode cX10_in 62 = .ok (.iload_n 1, 1) := by decide +kernel
theorem dX10_in_63 : decode cX10_in 63 = .ok (.iaload, 1) := by decide +kernel
theorem dX10_in_64 : decode cX10_in 64 = .ok (.ifCond .ne 6, 3) := by decide +kernel
theorem dX10_in_67 : decode cX10_in 67 = .ok (.bipush (-3), 2) := by decide +kernel
theorem dX10_in_69 : decode cX10_in 69 = .ok (.ireturn, 1) := by decide +kernel
theorem dX10_in_70 : decode cX10_in 70 = .ok (.aload_n 0, 1) := by decide +kernel
theorem dX10_in_71 : decode cX10_in 71 = .ok (.iload_n 1, 1) := by decide +kernel
theorem dX10_in_72 : decode cX10_in 72 = .ok (.invokevirtual 166, 3) := by decide +kernel
theorem dX10_in_75 : decode cX10_in 75 = .ok (.aload_n 0, 1) := by decide +kernel
theorem dX10_in_76 : decode cX10_in 76 = .ok (.iload_n 2, 1) := by decide +kernel
theorem dX10_in_77 : decode cX10_in 77 = .ok (.iload_n 3, 1) := by decide +kernel
theorem dX10_in_78 : decode cX10_in 78 = .ok (.invokevirtual 163, 3) := by decide +kernel
theorem dX10_in_81 : decode cX10_in 81 = .ok (.ifCond .eq 7, 3) := by decide +kernel
theorem dX10_in_84 : decode cX10_in 84 = .ok (.iconst 1, 1) := by decide +kernel
theorem dX10_in_85 : decode cX10_in 85 = .ok (.goto 4, 3) := by decide +kernel
theorem dX10_in_88 : decode cX10_in 88 = .ok (.iconst 0, 1) := by decide +kernel
theorem dX10_in_89 : decode cX10_in 89 = .ok (.ireturn, 1) := by decide +kernel
theorem dX10_face_0 : decode cX10_face 0 = .ok (.iload_n 1, 1) := by decide +kernel
theorem dX10_face_1 : decode cX10_face 1 = .ok (.invokestatic 136, 3) := by decide +kernel
theorem dX10_face_4 : decode cX10_face 4 = .ok (.ifCond .ne 5, 3) := by decide +kernel
theorem dX10_face_7 : decode cX10_face 7 = .ok (.iconst (-1), 1) := by decide +kernel
theorem dX10_face_8 : decode cX10_face 8 = .ok (.ireturn, 1) := by decide +kernel
theorem dX10_face_9 : decode cX10_face 9 = .ok (.aload_n 0, 1) := by decide +kernel
theorem dX10_face_10 : decode cX10_face 10 = .ok (.getfield 11, 3) := by decide +kernel
theorem dX10_face_13 : decode cX10_face 13 = .ok (.iload_n 1, 1) := by decide +kernel
theorem dX10_face_14 : decode cX10_face 14 = .ok (.iaload, 1) := by decide +kernel
theorem dX10_face_15 : decode cX10_face 15 = .ok (.ifCond .ne 6, 3) := by decide +kernel
theorem dX10_face_18 : decode cX10_face 18 = .ok (.bipush (-3), 2) := by decide +kernel
theorem dX10_face_20 : decode cX10_face 20 = .ok (.ireturn, 1) := by decide +kernel
theorem dX10_face_21 : decode cX10_face 21 = .ok (.aload_n 0, 1) := by decide +kernel
theorem dX10_face_22 : decode cX10_face 22 = .ok (.iload_n 1, 1) := by decide +kernel
theorem dX10_face_23 : decode cX10_face 23 = .ok (.invokevirtual 166, 3) := by decide +kernel
theorem dX10_face_26 : decode cX10_face 26 = .ok (.iload_n 2, 1) := by decide +kernel
theorem dX10_face_27 : decode cX10_face 27 = .ok (.i2l, 1) := by decide +kernel
theorem dX10_face_28 : decode cX10_face 28 = .ok (.lconst 0, 1) := by decide +kernel
theorem dX10_face_29 : decode cX10_face 29 = .ok (.aload_n 0, 1) := by decide +kernel
theorem dX10_face_30 : decode cX10_face 30 = .ok (.getfield 221, 3) := by decide +kernel
theorem dX10_face_33 : decode cX10_face 33 = .ok (.iconst 1, 1) := by decide +kernel
theorem dX10_face_34 : decode cX10_face 34 = .ok (.isub, 1) := by decide +kernel
theorem dX10_face_35 : decode cX10_face 35 = .ok (.i2l, 1) := by decide +kernel
theorem dX10_face_36 : decode cX10_face 36 = .ok (.invokestatic 115, 3) := by decide +kernel
theorem dX10_face_39 : decode cX10_face 39 = .ok (.ifCond .eq 15, 3) := by decide +kernel
theorem dX10_face_42 : decode cX10_face 42 = .ok (.iload_n 3, 1) := by decide +kernel
theorem dX10_face_43 : decode cX10_face 43 = .ok (.i2l, 1) := by decide +kernel
theorem dX10_face_44 : decode cX10_face 44 = .ok (.lconst 0, 1) := by decide +kernel
theorem dX10_face_45 : decode cX10_face 45 = .ok (.ldc2_w 241, 3) := by decide +kernel
theorem dX10_face_48 : decode cX10_face 48 = .ok (.invokestatic 115, 3) := by decide +kernel
theorem dX10_face_51 : decode cX10_face 51 = .ok (.ifCond .ne 5, 3) := by decide +kernel
theorem dX10_face_54 : decode cX10_face 54 = .ok (.iconst (-1), 1) := by decide +kernel
theorem dX10_face_55 : decode cX10_face 55 = .ok (.ireturn, 1) := by decide +kernel
theorem dX10_face_56 : decode cX10_face 56 = .ok (.iload_n 3, 1) := by decide +kernel
theorem dX10_face_57 : decode cX10_face 57 = .ok (.ifCond .ne 12, 3) := by decide +kernel
theorem dX10_face_60 : decode cX10_face 60 = .ok (.aload_n 0, 1) := by decide +kernel
theorem dX10_face_61 : decode cX10_face 61 = .ok (.getfield 39, 3) := by decide +kernel
theorem dX10_face_64 : decode cX10_face 64 = .ok (.iload_n 2, 1) := by decide +kernel
theorem dX10_face_65 : decode cX10_face 65 = .ok (.iaload, 1) := by decide +kernel
theorem dX10_face_66 : decode cX10_face 66 = .ok (.goto 23, 3) := by decide +kernel
theorem dX10_face_69 : decode cX10_face 69 = .ok (.iload_n 3, 1) := by decide +kernel
theorem dX10_face_70 : decode cX10_face 70 = .ok (.iconst 1, 1) := by decide +kernel
theorem dX10_face_71 : decode cX10_face 71 = .ok (.if_icmp .ne 12, 3) := by decide +kernel
theorem dX10_face_74 : decode cX10_face 74 = .ok (.aload_n 0, 1) := by decide +kernel
theorem dX10_face_75 : decode cX10_face 75 = .ok (.getfield 42, 3) := by decide +kernel
theorem dX10_face_78 : decode cX10_face 78 = .ok (.iload_n 2, 1) := by decide +kernel
theorem dX10_face_79 : decode cX10_face 79 = .ok (.iaload, 1) := by decide +kernel
theorem dX10_face_80 : decode cX10_face 80 = .ok (.goto 9, 3) := by decide +kernel
theorem dX10_face_83 : decode cX10_face 83 = .ok (.aload_n 0, 1) := by decide +kernel
theorem dX10_face_84 : decode cX10_face 84 = .ok (.getfield 45, 3) := by decide +kernel
theorem dX10_face_87 : decode cX10_face 87 = .ok (.iload_n 2, 1) := by decide +kernel
theorem dX10_face_88 : decode cX10_face 88 = .ok (.iaload, 1) := by decide +kernel
theorem dX10_face_89 : decode cX10_face 89 = .ok (.ireturn, 1) := by decide +kernel
theorem dX10_heavy_0 : decode cX10_heavy 0 = .ok (.aload_n 0, 1) := by decide +kernel
theorem dX10_heavy_1 : decode cX10_heavy 1 = .ok (.getfield 39, 3) := by decide +kernel
theorem dX10_heavy_4 : decode cX10_heavy 4 = .ok (.iload_n 1, 1) := by decide +kernel
theorem dX10_heavy_5 : decode cX10_heavy 5 = .ok (.iaload, 1) := by decide +kernel
theorem dX10_heavy_6 : decode cX10_heavy 6 = .ok (.iload_n 2, 1) := by decide +kernel
theorem dX10_heavy_7 : decode cX10_heavy 7 = .ok (.iconst 1, 1) := by decide +kernel
theorem dX10_heavy_8 : decode cX10_heavy 8 = .ok (.iadd, 1) := by decide +kernel
theorem dX10_heavy_9 : decode cX10_heavy 9 = .ok (.imul, 1) := by decide +kernel
theorem dX10_heavy_10 : decode cX10_heavy 10 = .ok (.aload_n 0, 1) := by decide +kernel
theorem dX10_heavy_11 : decode cX10_heavy 11 = .ok (.getfield 42, 3) := by decide +kernel
theorem dX10_heavy_14 : decode cX10_heavy 14 = .ok (.iload_n 1, 1) := by decide +kernel
theorem dX10_heavy_15 : decode cX10_heavy 15 = .ok (.iaload, 1) := by decide +kernel
theorem dX10_heavy_16 : decode cX10_heavy 16 = .ok (.iload_n 3, 1) := by decide +kernel
theorem dX10_heavy_17 : decode cX10_heavy 17 = .ok (.iconst 1, 1) := by decide +kernel
theorem dX10_heavy_18 : decode cX10_heavy 18 = .ok (.iadd, 1) := by decide +kernel
theorem dX10_heavy_19 : decode cX10_heavy 19 = .ok (.imul, 1) := by decide +kernel
theorem dX10_heavy_20 : decode cX10_heavy 20 = .ok (.iadd, 1) := by decide +kernel
theorem dX10_heavy_21 : decode cX10_heavy 21 = .ok (.ireturn, 1) := by decide +kernel
theorem dX10_barring_0 : decode cX10_barring 0 = .ok (.iconst 0, 1) := by decide +kernel
theorem dX10_barring_1 : decode cX10_barring 1 = .ok (.istore 5, 2) := by decide +kernel
theorem dX10_barring_3 : decode cX10_barring 3 = .ok (.iload 5, 2) := by decide +kernel
theorem dX10_barring_5 : decode cX10_barring 5 = .ok (.aload_n 0, 1) := by decide +kernel
theorem dX10_barring_6 : decode cX10_barring 6 = .ok (.getfield 221, 3) := by decide +kernel
theorem dX10_barring_9 : decode cX10_barring 9 = .ok (.if_icmp .ge 45, 3) := by decide +kernel
theorem dX10_barring_12 : decode cX10_barring 12 = .ok (.aload_n 0, 1) := by decide +kernel
theorem dX10_barring_13 : decode cX10_barring 13 = .ok (.getfield 45, 3) := by decide +kernel
theorem dX10_barring_16 : decode cX10_barring 16 = .ok (.iload 5, 2) := by decide +kernel
theorem dX10_barring_18 : decode cX10_barring 18 = .ok (.iaload, 1) := by decide +kernel
theorem dX10_barring_19 : decode cX10_barring 19 = .ok (.ifCond .le 29, 3) := by decide +kernel
theorem dX10_barring_22 : decode cX10_barring 22 = .ok (.aload_n 0, 1) := by decide +kernel
theorem dX10_barring_23 : decode cX10_barring 23 = .ok (.iload 5, 2) := by decide +kernel
theorem dX10_barring_25 : decode cX10_barring 25 = .ok (.iload_n 1, 1) := by decide +kernel
theorem dX10_barring_26 : decode cX10_barring 26 = .ok (.iload_n 2, 1) := by decide +kernel
theorem dX10_barring_27 : decode cX10_barring 27 = .ok (.invokevirtual 260, 3) := by decide +kernel
theorem dX10_barring_30 : decode cX10_barring 30 = .ok (.iload 4, 2) := by decide +kernel
theorem dX10_barring_32 : decode cX10_barring 32 = .ok (.imul, 1) := by decide +kernel
theorem dX10_barring_33 : decode cX10_barring 33 = .ok (.iload_n 3, 1) := by decide +kernel
theorem dX10_barring_34 : decode cX10_barring 34 = .ok (.aload_n 0, 1) := by decide +kernel
theorem dX10_barring_35 : decode cX10_barring 35 = .ok (.getfield 45, 3) := by decide +kernel
theorem dX10_barring_38 : decode cX10_barring 38 = .ok (.iload 5, 2) := by decide +kernel
theorem dX10_barring_40 : decode cX10_barring 40 = .ok (.iaload, 1) := by decide +kernel
theorem dX10_barring_41 : decode cX10_barring 41 = .ok (.imul, 1) := by decide +kernel
theorem dX10_barring_42 : decode cX10_barring 42 = .ok (.if_icmp .gt 6, 3) := by decide +kernel
theorem dX10_barring_45 : decode cX10_barring 45 = .ok (.iload 5, 2) := by decide +kernel
theorem dX10_barring_47 : decode cX10_barring 47 = .ok (.ireturn, 1) := by decide +kernel
theorem dX10_barring_48 : decode cX10_barring 48 = .ok (.iinc 5 1, 3) := by decide +kernel
theorem dX10_barring_51 : decode cX10_barring 51 = .ok (.goto (-48), 3) := by decide +kernel
theorem dX10_barring_54 : decode cX10_barring 54 = .ok (.iconst (-1), 1) := by decide +kernel
theorem dX10_barring_55 : decode cX10_barring 55 = .ok (.ireturn, 1) := by decide +kernel
theorem dX10_isFraction_0 : decode cX10_isFraction 0 = .ok (.iload_n 0, 1) := by decide +kernel
theorem dX10_isFraction_1 : decode cX10_isFraction 1 = .ok (.i2l, 1) := by decide +kernel
theorem dX10_isFraction_2 : decode cX10_isFraction 2 = .ok (.lconst 1, 1) := by decide +kernel
theorem dX10_isFraction_3 : decode cX10_isFraction 3 = .ok (.ldc2_w 263, 3) := by decide +kernel
theorem dX10_isFraction_6 : decode cX10_isFraction 6 = .ok (.invokestatic 115, 3) := by decide +kernel
theorem dX10_isFraction_9 : decode cX10_isFraction 9 = .ok (.ifCond .eq 19, 3) := by decide +kernel
theorem dX10_isFraction_12 : decode cX10_isFraction 12 = .ok (.iload_n 1, 1) := by decide +kernel
theorem dX10_isFraction_13 : decode cX10_isFraction 13 = .ok (.i2l, 1) := by decide +kernel
theorem dX10_isFraction_14 : decode cX10_isFraction 14 = .ok (.lconst 1, 1) := by decide +kernel
theorem dX10_isFraction_15 : decode cX10_isFraction 15 = .ok (.ldc2_w 263, 3) := by decide +kernel
theorem dX10_isFraction_18 : decode cX10_isFraction 18 = .ok (.invokestatic 115, 3) := by decide +kernel
theorem dX10_isFraction_21 : decode cX10_isFraction 21 = .ok (.ifCond .eq 7, 3) := by decide +kernel
theorem dX10_isFraction_24 : decode cX10_isFraction 24 = .ok (.iconst 1, 1) := by decide +kernel
theorem dX10_isFraction_25 : decode cX10_isFraction 25 = .ok (.goto 4, 3) := by decide +kernel
theorem dX10_isFraction_28 : decode cX10_isFraction 28 = .ok (.iconst 0, 1) := by decide +kernel
theorem dX10_isFraction_29 : decode cX10_isFraction 29 = .ok (.ireturn, 1) := by decide +kernel
theorem dX10_held_0 : decode cX10_held 0 = .ok (.iload_n 1, 1) := by decide +kernel
theorem dX10_held_1 : decode cX10_held 1 = .ok (.invokestatic 136, 3) := by decide +kernel
theorem dX10_held_4 : decode cX10_held 4 = .ok (.ifCond .ne 5, 3) := by decide +kernel
theorem dX10_held_7 : decode cX10_held 7 = .ok (.iconst (-1), 1) := by decide +kernel
theorem dX10_held_8 : decode cX10_held 8 = .ok (.ireturn, 1) := by decide +kernel
theorem dX10_held_9 : decode cX10_held 9 = .ok (.iload_n 2, 1) := by decide +kernel
theorem dX10_held_10 : decode cX10_held 10 = .ok (.invokestatic 140, 3) := by decide +kernel
theorem dX10_held_13 : decode cX10_held 13 = .ok (.ifCond .eq 20, 3) := by decide +kernel
theorem dX10_held_16 : decode cX10_held 16 = .ok (.iload_n 3, 1) := by decide +kernel
theorem dX10_held_17 : decode cX10_held 17 = .ok (.invokestatic 140, 3) := by decide +kernel
theorem dX10_held_20 : decode cX10_held 20 = .ok (.ifCond .eq 13, 3) := by decide +kernel
theorem dX10_held_23 : decode cX10_held 23 = .ok (.iload 4, 2) := by decide +kernel
theorem dX10_held_25 : decode cX10_held 25 = .ok (.iload 5, 2) := by decide +kernel
theorem dX10_held_27 : decode cX10_held 27 = .ok (.invokestatic 265, 3) := by decide +kernel
theorem dX10_held_30 : decode cX10_held 30 = .ok (.ifCond .ne 6, 3) := by decide +kernel
theorem dX10_held_33 : decode cX10_held 33 = .ok (.bipush (-2), 2) := by decide +kernel
theorem dX10_held_35 : decode cX10_held 35 = .ok (.ireturn, 1) := by decide +kernel
theorem dX10_held_36 : decode cX10_held 36 = .ok (.aload_n 0, 1) := by decide +kernel
theorem dX10_held_37 : decode cX10_held 37 = .ok (.getfield 11, 3) := by decide +kernel
theorem dX10_held_40 : decode cX10_held 40 = .ok (.iload_n 1, 1) := by decide +kernel
theorem dX10_held_41 : decode cX10_held 41 = .ok (.iaload, 1) := by decide +kernel
theorem dX10_held_42 : decode cX10_held 42 = .ok (.ifCond .ne 6, 3) := by decide +kernel
theorem dX10_held_45 : decode cX10_held 45 = .ok (.bipush (-3), 2) := by decide +kernel
theorem dX10_held_47 : decode cX10_held 47 = .ok (.ireturn, 1) := by decide +kernel
theorem dX10_held_48 : decode cX10_held 48 = .ok (.aload_n 0, 1) := by decide +kernel
theorem dX10_held_49 : decode cX10_held 49 = .ok (.iload_n 1, 1) := by decide +kernel
theorem dX10_held_50 : decode cX10_held 50 = .ok (.invokevirtual 166, 3) := by decide +kernel
theorem dX10_held_53 : decode cX10_held 53 = .ok (.aload_n 0, 1) := by decide +kernel
theorem dX10_held_54 : decode cX10_held 54 = .ok (.iload_n 2, 1) := by decide +kernel
theorem dX10_held_55 : decode cX10_held 55 = .ok (.iload_n 3, 1) := by decide +kernel
theorem dX10_held_56 : decode cX10_held 56 = .ok (.iload 4, 2) := by decide +kernel
theorem dX10_held_58 : decode cX10_held 58 = .ok (.iload 5, 2) := by decide +kernel
theorem dX10_held_60 : decode cX10_held 60 = .ok (.invokevirtual 268, 3) := by decide +kernel
theorem dX10_held_63 : decode cX10_held 63 = .ok (.iconst (-1), 1) := by decide +kernel
theorem dX10_held_64 : decode cX10_held 64 = .ok (.if_icmp .ne 7, 3) := by decide +kernel
theorem dX10_held_67 : decode cX10_held 67 = .ok (.iconst 1, 1) := by decide +kernel
theorem dX10_held_68 : decode cX10_held 68 = .ok (.goto 4, 3) := by decide +kernel
theorem dX10_held_71 : decode cX10_held 71 = .ok (.iconst 0, 1) := by decide +kernel
theorem dX10_held_72 : decode cX10_held 72 = .ok (.ireturn, 1) := by decide +kernel
theorem dX10_reason_0 : decode cX10_reason 0 = .ok (.iload_n 1, 1) := by decide +kernel
theorem dX10_reason_1 : decode cX10_reason 1 = .ok (.invokestatic 136, 3) := by decide +kernel
theorem dX10_reason_4 : decode cX10_reason 4 = .ok (.ifCond .eq 16, 3) := by decide +kernel
theorem dX10_reason_7 : decode cX10_reason 7 = .ok (.iload 6, 2) := by decide +kernel
theorem dX10_reason_9 : decode cX10_reason 9 = .ok (.i2l, 1) := by decide +kernel
theorem dX10_reason_10 : decode cX10_reason 10 = .ok (.lconst 0, 1) := by decide +kernel
theorem dX10_reason_11 : decode cX10_reason 11 = .ok (.ldc2_w 243, 3) := by decide +kernel
theorem dX10_reason_14 : decode cX10_reason 14 = .ok (.invokestatic 115, 3) := by decide +kernel
theorem dX10_reason_17 : decode cX10_reason 17 = .ok (.ifCond .ne 5, 3) := by decide +kernel
theorem dX10_reason_20 : decode cX10_reason 20 = .ok (.iconst (-1), 1) := by decide +kernel
theorem dX10_reason_21 : decode cX10_reason 21 = .ok (.ireturn, 1) := by decide +kernel
theorem dX10_reason_22 : decode cX10_reason 22 = .ok (.iload_n 2, 1) := by decide +kernel
theorem dX10_reason_23 : decode cX10_reason 23 = .ok (.invokestatic 140, 3) := by decide +kernel
theorem dX10_reason_26 : decode cX10_reason 26 = .ok (.ifCond .eq 20, 3) := by decide +kernel
theorem dX10_reason_29 : decode cX10_reason 29 = .ok (.iload_n 3, 1) := by decide +kernel
theorem dX10_reason_30 : decode cX10_reason 30 = .ok (.invokestatic 140, 3) := by decide +kernel
theorem dX10_reason_33 : decode cX10_reason 33 = .ok (.ifCond .eq 13, 3) := by decide +kernel
theorem dX10_reason_36 : decode cX10_reason 36 = .ok (.iload 4, 2) := by decide +kernel
theorem dX10_reason_38 : decode cX10_reason 38 = .ok (.iload 5, 2) := by decide +kernel
theorem dX10_reason_40 : decode cX10_reason 40 = .ok (.invokestatic 265, 3) := by decide +kernel
theorem dX10_reason_43 : decode cX10_reason 43 = .ok (.ifCond .ne 6, 3) := by decide +kernel
theorem dX10_reason_46 : decode cX10_reason 46 = .ok (.bipush (-2), 2) := by decide +kernel
theorem dX10_reason_48 : decode cX10_reason 48 = .ok (.ireturn, 1) := by decide +kernel
theorem dX10_reason_49 : decode cX10_reason 49 = .ok (.aload_n 0, 1) := by decide +kernel
theorem dX10_reason_50 : decode cX10_reason 50 = .ok (.getfield 11, 3) := by decide +kernel
theorem dX10_reason_53 : decode cX10_reason 53 = .ok (.iload_n 1, 1) := by decide +kernel
theorem dX10_reason_54 : decode cX10_reason 54 = .ok (.iaload, 1) := by decide +kernel
theorem dX10_reason_55 : decode cX10_reason 55 = .ok (.ifCond .ne 6, 3) := by decide +kernel
theorem dX10_reason_58 : decode cX10_reason 58 = .ok (.bipush (-3), 2) := by decide +kernel
theorem dX10_reason_60 : decode cX10_reason 60 = .ok (.ireturn, 1) := by decide +kernel
theorem dX10_reason_61 : decode cX10_reason 61 = .ok (.aload_n 0, 1) := by decide +kernel
theorem dX10_reason_62 : decode cX10_reason 62 = .ok (.iload_n 1, 1) := by decide +kernel
theorem dX10_reason_63 : decode cX10_reason 63 = .ok (.invokevirtual 166, 3) := by decide +kernel
theorem dX10_reason_66 : decode cX10_reason 66 = .ok (.aload_n 0, 1) := by decide +kernel
theorem dX10_reason_67 : decode cX10_reason 67 = .ok (.iload_n 2, 1) := by decide +kernel
theorem dX10_reason_68 : decode cX10_reason 68 = .ok (.iload_n 3, 1) := by decide +kernel
theorem dX10_reason_69 : decode cX10_reason 69 = .ok (.iload 4, 2) := by decide +kernel
theorem dX10_reason_71 : decode cX10_reason 71 = .ok (.iload 5, 2) := by decide +kernel
theorem dX10_reason_73 : decode cX10_reason 73 = .ok (.invokevirtual 268, 3) := by decide +kernel
theorem dX10_reason_76 : decode cX10_reason 76 = .ok (.istore 7, 2) := by decide +kernel
theorem dX10_reason_78 : decode cX10_reason 78 = .ok (.iload 7, 2) := by decide +kernel
theorem dX10_reason_80 : decode cX10_reason 80 = .ok (.iconst (-1), 1) := by decide +kernel
theorem dX10_reason_81 : decode cX10_reason 81 = .ok (.if_icmp .ne 6, 3) := by decide +kernel
theorem dX10_reason_84 : decode cX10_reason 84 = .ok (.bipush (-5), 2) := by decide +kernel
theorem dX10_reason_86 : decode cX10_reason 86 = .ok (.ireturn, 1) := by decide +kernel
theorem dX10_reason_87 : decode cX10_reason 87 = .ok (.iload 6, 2) := by decide +kernel
theorem dX10_reason_89 : decode cX10_reason 89 = .ok (.ifCond .ne 8, 3) := by decide +kernel
theorem dX10_reason_92 : decode cX10_reason 92 = .ok (.iload 7, 2) := by decide +kernel
theorem dX10_reason_94 : decode cX10_reason 94 = .ok (.goto 49, 3) := by decide +kernel
theorem dX10_reason_97 : decode cX10_reason 97 = .ok (.iload 6, 2) := by decide +kernel
theorem dX10_reason_99 : decode cX10_reason 99 = .ok (.iconst 1, 1) := by decide +kernel
theorem dX10_reason_100 : decode cX10_reason 100 = .ok (.if_icmp .ne 14, 3) := by decide +kernel
theorem dX10_reason_103 : decode cX10_reason 103 = .ok (.aload_n 0, 1) := by decide +kernel
theorem dX10_reason_104 : decode cX10_reason 104 = .ok (.iload 7, 2) := by decide +kernel
theorem dX10_reason_106 : decode cX10_reason 106 = .ok (.iload_n 2, 1) := by decide +kernel
theorem dX10_reason_107 : decode cX10_reason 107 = .ok (.iload_n 3, 1) := by decide +kernel
theorem dX10_reason_108 : decode cX10_reason 108 = .ok (.invokevirtual 260, 3) := by decide +kernel
theorem dX10_reason_111 : decode cX10_reason 111 = .ok (.goto 32, 3) := by decide +kernel
theorem dX10_reason_114 : decode cX10_reason 114 = .ok (.iload 6, 2) := by decide +kernel
theorem dX10_reason_116 : decode cX10_reason 116 = .ok (.iconst 2, 1) := by decide +kernel
theorem dX10_reason_117 : decode cX10_reason 117 = .ok (.if_icmp .ne 13, 3) := by decide +kernel
theorem dX10_reason_120 : decode cX10_reason 120 = .ok (.aload_n 0, 1) := by decide +kernel
theorem dX10_reason_121 : decode cX10_reason 121 = .ok (.getfield 45, 3) := by decide +kernel
theorem dX10_reason_124 : decode cX10_reason 124 = .ok (.iload 7, 2) := by decide +kernel
theorem dX10_reason_126 : decode cX10_reason 126 = .ok (.iaload, 1) := by decide +kernel
theorem dX10_reason_127 : decode cX10_reason 127 = .ok (.goto 16, 3) := by decide +kernel
theorem dX10_reason_130 : decode cX10_reason 130 = .ok (.iload 6, 2) := by decide +kernel
theorem dX10_reason_132 : decode cX10_reason 132 = .ok (.iconst 3, 1) := by decide +kernel
theorem dX10_reason_133 : decode cX10_reason 133 = .ok (.if_icmp .ne 8, 3) := by decide +kernel
theorem dX10_reason_136 : decode cX10_reason 136 = .ok (.iload 4, 2) := by decide +kernel
theorem dX10_reason_138 : decode cX10_reason 138 = .ok (.goto 5, 3) := by decide +kernel
theorem dX10_reason_141 : decode cX10_reason 141 = .ok (.iload 5, 2) := by decide +kernel
theorem dX10_reason_143 : decode cX10_reason 143 = .ok (.ireturn, 1) := by decide +kernel
theorem dX10_jumpFace_0 : decode cX10_jumpFace 0 = .ok (.iconst (-1), 1) := by decide +kernel
theorem dX10_jumpFace_1 : decode cX10_jumpFace 1 = .ok (.istore_n 3, 1) := by decide +kernel
theorem dX10_jumpFace_2 : decode cX10_jumpFace 2 = .ok (.iconst 0, 1) := by decide +kernel
theorem dX10_jumpFace_3 : decode cX10_jumpFace 3 = .ok (.istore 4, 2) := by decide +kernel
theorem dX10_jumpFace_5 : decode cX10_jumpFace 5 = .ok (.iload 4, 2) := by decide +kernel
theorem dX10_jumpFace_7 : decode cX10_jumpFace 7 = .ok (.aload_n 0, 1) := by decide +kernel
theorem dX10_jumpFace_8 : decode cX10_jumpFace 8 = .ok (.getfield 221, 3) := by decide +kernel
theorem dX10_jumpFace_11 : decode cX10_jumpFace 11 = .ok (.if_icmp .ge 60, 3) := by decide +kernel
theorem dX10_jumpFace_14 : decode cX10_jumpFace 14 = .ok (.aload_n 0, 1) := by decide +kernel
theorem dX10_jumpFace_15 : decode cX10_jumpFace 15 = .ok (.getfield 45, 3) := by decide +kernel
theorem dX10_jumpFace_18 : decode cX10_jumpFace 18 = .ok (.iload 4, 2) := by decide +kernel
theorem dX10_jumpFace_20 : decode cX10_jumpFace 20 = .ok (.iaload, 1) := by decide +kernel
theorem dX10_jumpFace_21 : decode cX10_jumpFace 21 = .ok (.ifCond .le 44, 3) := by decide +kernel
theorem dX10_jumpFace_24 : decode cX10_jumpFace 24 = .ok (.iload_n 3, 1) := by decide +kernel
theorem dX10_jumpFace_25 : decode cX10_jumpFace 25 = .ok (.iconst (-1), 1) := by decide +kernel
theorem dX10_jumpFace_26 : decode cX10_jumpFace 26 = .ok (.if_icmp .eq 36, 3) := by decide +kernel
theorem dX10_jumpFace_29 : decode cX10_jumpFace 29 = .ok (.aload_n 0, 1) := by decide +kernel
theorem dX10_jumpFace_30 : decode cX10_jumpFace 30 = .ok (.iload 4, 2) := by decide +kernel
theorem dX10_jumpFace_32 : decode cX10_jumpFace 32 = .ok (.iload_n 1, 1) := by decide +kernel
theorem dX10_jumpFace_33 : decode cX10_jumpFace 33 = .ok (.iload_n 2, 1) := by decide +kernel
theorem dX10_jumpFace_34 : decode cX10_jumpFace 34 = .ok (.invokevirtual 260, 3) := by decide +kernel
theorem dX10_jumpFace_37 : decode cX10_jumpFace 37 = .ok (.aload_n 0, 1) := by decide +kernel
theorem dX10_jumpFace_38 : decode cX10_jumpFace 38 = .ok (.getfield 45, 3) := by decide +kernel
theorem dX10_jumpFace_41 : decode cX10_jumpFace 41 = .ok (.iload_n 3, 1) := by decide +kernel
theorem dX10_jumpFace_42 : decode cX10_jumpFace 42 = .ok (.iaload, 1) := by decide +kernel
theorem dX10_jumpFace_43 : decode cX10_jumpFace 43 = .ok (.imul, 1) := by decide +kernel
theorem dX10_jumpFace_44 : decode cX10_jumpFace 44 = .ok (.aload_n 0, 1) := by decide +kernel
theorem dX10_jumpFace_45 : decode cX10_jumpFace 45 = .ok (.iload_n 3, 1) := by decide +kernel
theorem dX10_jumpFace_46 : decode cX10_jumpFace 46 = .ok (.iload_n 1, 1) := by decide +kernel
theorem dX10_jumpFace_47 : decode cX10_jumpFace 47 = .ok (.iload_n 2, 1) := by decide +kernel
theorem dX10_jumpFace_48 : decode cX10_jumpFace 48 = .ok (.invokevirtual 260, 3) := by decide +kernel
theorem dX10_jumpFace_51 : decode cX10_jumpFace 51 = .ok (.aload_n 0, 1) := by decide +kernel
theorem dX10_jumpFace_52 : decode cX10_jumpFace 52 = .ok (.getfield 45, 3) := by decide +kernel
theorem dX10_jumpFace_55 : decode cX10_jumpFace 55 = .ok (.iload 4, 2) := by decide +kernel
theorem dX10_jumpFace_57 : decode cX10_jumpFace 57 = .ok (.iaload, 1) := by decide +kernel
theorem dX10_jumpFace_58 : decode cX10_jumpFace 58 = .ok (.imul, 1) := by decide +kernel
theorem dX10_jumpFace_59 : decode cX10_jumpFace 59 = .ok (.if_icmp .ge 6, 3) := by decide +kernel
theorem dX10_jumpFace_62 : decode cX10_jumpFace 62 = .ok (.iload 4, 2) := by decide +kernel
theorem dX10_jumpFace_64 : decode cX10_jumpFace 64 = .ok (.istore_n 3, 1) := by decide +kernel
theorem dX10_jumpFace_65 : decode cX10_jumpFace 65 = .ok (.iinc 4 1, 3) := by decide +kernel
theorem dX10_jumpFace_68 : decode cX10_jumpFace 68 = .ok (.goto (-63), 3) := by decide +kernel
theorem dX10_jumpFace_71 : decode cX10_jumpFace 71 = .ok (.iload_n 3, 1) := by decide +kernel
theorem dX10_jumpFace_72 : decode cX10_jumpFace 72 = .ok (.ireturn, 1) := by decide +kernel
theorem dX10_jump_0 : decode cX10_jump 0 = .ok (.iload_n 1, 1) := by decide +kernel
theorem dX10_jump_1 : decode cX10_jump 1 = .ok (.invokestatic 136, 3) := by decide +kernel
theorem dX10_jump_4 : decode cX10_jump 4 = .ok (.ifCond .eq 37, 3) := by decide +kernel
theorem dX10_jump_7 : decode cX10_jump 7 = .ok (.iload_n 2, 1) := by decide +kernel
theorem dX10_jump_8 : decode cX10_jump 8 = .ok (.invokestatic 140, 3) := by decide +kernel
theorem dX10_jump_11 : decode cX10_jump 11 = .ok (.ifCond .eq 30, 3) := by decide +kernel
theorem dX10_jump_14 : decode cX10_jump 14 = .ok (.iload_n 3, 1) := by decide +kernel
theorem dX10_jump_15 : decode cX10_jump 15 = .ok (.invokestatic 140, 3) := by decide +kernel
theorem dX10_jump_18 : decode cX10_jump 18 = .ok (.ifCond .eq 23, 3) := by decide +kernel
theorem dX10_jump_21 : decode cX10_jump 21 = .ok (.iload 4, 2) := by decide +kernel
theorem dX10_jump_23 : decode cX10_jump 23 = .ok (.i2l, 1) := by decide +kernel
theorem dX10_jump_24 : decode cX10_jump 24 = .ok (.lconst 0, 1) := by decide +kernel
theorem dX10_jump_25 : decode cX10_jump 25 = .ok (.lconst 1, 1) := by decide +kernel
theorem dX10_jump_26 : decode cX10_jump 26 = .ok (.invokestatic 115, 3) := by decide +kernel
theorem dX10_jump_29 : decode cX10_jump 29 = .ok (.ifCond .eq 12, 3) := by decide +kernel
theorem dX10_jump_32 : decode cX10_jump 32 = .ok (.aload_n 0, 1) := by decide +kernel
theorem dX10_jump_33 : decode cX10_jump 33 = .ok (.getfield 11, 3) := by decide +kernel
theorem dX10_jump_36 : decode cX10_jump 36 = .ok (.iload_n 1, 1) := by decide +kernel
theorem dX10_jump_37 : decode cX10_jump 37 = .ok (.iaload, 1) := by decide +kernel
theorem dX10_jump_38 : decode cX10_jump 38 = .ok (.ifCond .ne 7, 3) := by decide +kernel
theorem dX10_jump_41 : decode cX10_jump 41 = .ok (.ldc2_w 271, 3) := by decide +kernel
theorem dX10_jump_44 : decode cX10_jump 44 = .ok (.lreturn, 1) := by decide +kernel
theorem dX10_jump_45 : decode cX10_jump 45 = .ok (.aload_n 0, 1) := by decide +kernel
theorem dX10_jump_46 : decode cX10_jump 46 = .ok (.iload_n 1, 1) := by decide +kernel
theorem dX10_jump_47 : decode cX10_jump 47 = .ok (.invokevirtual 166, 3) := by decide +kernel
theorem dX10_jump_50 : decode cX10_jump 50 = .ok (.aload_n 0, 1) := by decide +kernel
theorem dX10_jump_51 : decode cX10_jump 51 = .ok (.iload_n 2, 1) := by decide +kernel
theorem dX10_jump_52 : decode cX10_jump 52 = .ok (.iload_n 3, 1) := by decide +kernel
theorem dX10_jump_53 : decode cX10_jump 53 = .ok (.invokevirtual 273, 3) := by decide +kernel
theorem dX10_jump_56 : decode cX10_jump 56 = .ok (.istore 5, 2) := by decide +kernel
theorem dX10_jump_58 : decode cX10_jump 58 = .ok (.iload 5, 2) := by decide +kernel
theorem dX10_jump_60 : decode cX10_jump 60 = .ok (.iconst (-1), 1) := by decide +kernel
theorem dX10_jump_61 : decode cX10_jump 61 = .ok (.if_icmp .ne 9, 3) := by decide +kernel
theorem dX10_jump_64 : decode cX10_jump 64 = .ok (.ldc2_w 271, 3) := by decide +kernel
theorem dX10_jump_67 : decode cX10_jump 67 = .ok (.goto 25, 3) := by decide +kernel
theorem dX10_jump_70 : decode cX10_jump 70 = .ok (.aload_n 0, 1) := by decide +kernel
theorem dX10_jump_71 : decode cX10_jump 71 = .ok (.iload 5, 2) := by decide +kernel
theorem dX10_jump_73 : decode cX10_jump 73 = .ok (.iload_n 2, 1) := by decide +kernel
theorem dX10_jump_74 : decode cX10_jump 74 = .ok (.iload_n 3, 1) := by decide +kernel
theorem dX10_jump_75 : decode cX10_jump 75 = .ok (.invokevirtual 260, 3) := by decide +kernel
theorem dX10_jump_78 : decode cX10_jump 78 = .ok (.i2l, 1) := by decide +kernel
theorem dX10_jump_79 : decode cX10_jump 79 = .ok (.aload_n 0, 1) := by decide +kernel
theorem dX10_jump_80 : decode cX10_jump 80 = .ok (.getfield 45, 3) := by decide +kernel
theorem dX10_jump_83 : decode cX10_jump 83 = .ok (.iload 5, 2) := by decide +kernel
theorem dX10_jump_85 : decode cX10_jump 85 = .ok (.iaload, 1) := by decide +kernel
theorem dX10_jump_86 : decode cX10_jump 86 = .ok (.i2l, 1) := by decide +kernel
theorem dX10_jump_87 : decode cX10_jump 87 = .ok (.iload 4, 2) := by decide +kernel
theorem dX10_jump_89 : decode cX10_jump 89 = .ok (.invokestatic 276, 3) := by decide +kernel
theorem dX10_jump_92 : decode cX10_jump 92 = .ok (.lreturn, 1) := by decide +kernel
theorem dX10_comesJump_0 : decode cX10_comesJump 0 = .ok (.iconst 0, 1) := by decide +kernel
theorem dX10_comesJump_1 : decode cX10_comesJump 1 = .ok (.istore_n 3, 1) := by decide +kernel
theorem dX10_comesJump_2 : decode cX10_comesJump 2 = .ok (.iload_n 3, 1) := by decide +kernel
theorem dX10_comesJump_3 : decode cX10_comesJump 3 = .ok (.aload_n 0, 1) := by decide +kernel
theorem dX10_comesJump_4 : decode cX10_comesJump 4 = .ok (.getfield 257, 3) := by decide +kernel
theorem dX10_comesJump_7 : decode cX10_comesJump 7 = .ok (.if_icmp .ge 28, 3) := by decide +kernel
theorem dX10_comesJump_10 : decode cX10_comesJump 10 = .ok (.aload_n 0, 1) := by decide +kernel
theorem dX10_comesJump_11 : decode cX10_comesJump 11 = .ok (.getfield 48, 3) := by decide +kernel
theorem dX10_comesJump_14 : decode cX10_comesJump 14 = .ok (.iload_n 3, 1) := by decide +kernel
theorem dX10_comesJump_15 : decode cX10_comesJump 15 = .ok (.iaload, 1) := by decide +kernel
theorem dX10_comesJump_16 : decode cX10_comesJump 16 = .ok (.iload_n 2, 1) := by decide +kernel
theorem dX10_comesJump_17 : decode cX10_comesJump 17 = .ok (.imul, 1) := by decide +kernel
theorem dX10_comesJump_18 : decode cX10_comesJump 18 = .ok (.iload_n 1, 1) := by decide +kernel
theorem dX10_comesJump_19 : decode cX10_comesJump 19 = .ok (.aload_n 0, 1) := by decide +kernel
theorem dX10_comesJump_20 : decode cX10_comesJump 20 = .ok (.getfield 51, 3) := by decide +kernel
theorem dX10_comesJump_23 : decode cX10_comesJump 23 = .ok (.iload_n 3, 1) := by decide +kernel
theorem dX10_comesJump_24 : decode cX10_comesJump 24 = .ok (.iaload, 1) := by decide +kernel
theorem dX10_comesJump_25 : decode cX10_comesJump 25 = .ok (.imul, 1) := by decide +kernel
theorem dX10_comesJump_26 : decode cX10_comesJump 26 = .ok (.if_icmp .ge 9, 3) := by decide +kernel
theorem dX10_comesJump_29 : decode cX10_comesJump 29 = .ok (.iinc 3 1, 3) := by decide +kernel
theorem dX10_comesJump_32 : decode cX10_comesJump 32 = .ok (.goto (-30), 3) := by decide +kernel
theorem dX10_comesJump_35 : decode cX10_comesJump 35 = .ok (.iload_n 3, 1) := by decide +kernel
theorem dX10_comesJump_36 : decode cX10_comesJump 36 = .ok (.aload_n 0, 1) := by decide +kernel
theorem dX10_comesJump_37 : decode cX10_comesJump 37 = .ok (.getfield 257, 3) := by decide +kernel
theorem dX10_comesJump_40 : decode cX10_comesJump 40 = .ok (.if_icmp .ge 24, 3) := by decide +kernel
theorem dX10_comesJump_43 : decode cX10_comesJump 43 = .ok (.aload_n 0, 1) := by decide +kernel
theorem dX10_comesJump_44 : decode cX10_comesJump 44 = .ok (.getfield 48, 3) := by decide +kernel
theorem dX10_comesJump_47 : decode cX10_comesJump 47 = .ok (.iload_n 3, 1) := by decide +kernel
theorem dX10_comesJump_48 : decode cX10_comesJump 48 = .ok (.iaload, 1) := by decide +kernel
theorem dX10_comesJump_49 : decode cX10_comesJump 49 = .ok (.iload_n 1, 1) := by decide +kernel
theorem dX10_comesJump_50 : decode cX10_comesJump 50 = .ok (.if_icmp .ne 14, 3) := by decide +kernel
theorem dX10_comesJump_53 : decode cX10_comesJump 53 = .ok (.aload_n 0, 1) := by decide +kernel
theorem dX10_comesJump_54 : decode cX10_comesJump 54 = .ok (.getfield 51, 3) := by decide +kernel
theorem dX10_comesJump_57 : decode cX10_comesJump 57 = .ok (.iload_n 3, 1) := by decide +kernel
theorem dX10_comesJump_58 : decode cX10_comesJump 58 = .ok (.iaload, 1) := by decide +kernel
theorem dX10_comesJump_59 : decode cX10_comesJump 59 = .ok (.iload_n 2, 1) := by decide +kernel
theorem dX10_comesJump_60 : decode cX10_comesJump 60 = .ok (.if_icmp .ne 4, 3) := by decide +kernel
theorem dX10_comesJump_63 : decode cX10_comesJump 63 = .ok (.return_, 1) := by decide +kernel
theorem dX10_comesJump_64 : decode cX10_comesJump 64 = .ok (.aload_n 0, 1) := by decide +kernel
theorem dX10_comesJump_65 : decode cX10_comesJump 65 = .ok (.getfield 257, 3) := by decide +kernel
theorem dX10_comesJump_68 : decode cX10_comesJump 68 = .ok (.istore 4, 2) := by decide +kernel
theorem dX10_comesJump_70 : decode cX10_comesJump 70 = .ok (.iload 4, 2) := by decide +kernel
theorem dX10_comesJump_72 : decode cX10_comesJump 72 = .ok (.iload_n 3, 1) := by decide +kernel
theorem dX10_comesJump_73 : decode cX10_comesJump 73 = .ok (.if_icmp .le 41, 3) := by decide +kernel
theorem dX10_comesJump_76 : decode cX10_comesJump 76 = .ok (.aload_n 0, 1) := by decide +kernel
theorem dX10_comesJump_77 : decode cX10_comesJump 77 = .ok (.getfield 48, 3) := by decide +kernel
theorem dX10_comesJump_80 : decode cX10_comesJump 80 = .ok (.iload 4, 2) := by decide +kernel
theorem dX10_comesJump_82 : decode cX10_comesJump 82 = .ok (.aload_n 0, 1) := by decide +kernel
theorem dX10_comesJump_83 : decode cX10_comesJump 83 = .ok (.getfield 48, 3) := by decide +kernel
theorem dX10_comesJump_86 : decode cX10_comesJump 86 = .ok (.iload 4, 2) := by decide +kernel
theorem dX10_comesJump_88 : decode cX10_comesJump 88 = .ok (.iconst 1, 1) := by decide +kernel
theorem dX10_comesJump_89 : decode cX10_comesJump 89 = .ok (.isub, 1) := by decide +kernel
theorem dX10_comesJump_90 : decode cX10_comesJump 90 = .ok (.iaload, 1) := by decide +kernel
theorem dX10_comesJump_91 : decode cX10_comesJump 91 = .ok (.iastore, 1) := by decide +kernel
theorem dX10_comesJump_92 : decode cX10_comesJump 92 = .ok (.aload_n 0, 1) := by decide +kernel
theorem dX10_comesJump_93 : decode cX10_comesJump 93 = .ok (.getfield 51, 3) := by decide +kernel
theorem dX10_comesJump_96 : decode cX10_comesJump 96 = .ok (.iload 4, 2) := by decide +kernel
theorem dX10_comesJump_98 : decode cX10_comesJump 98 = .ok (.aload_n 0, 1) := by decide +kernel
theorem dX10_comesJump_99 : decode cX10_comesJump 99 = .ok (.getfield 51, 3) := by decide +kernel
theorem dX10_comesJump_102 : decode cX10_comesJump 102 = .ok (.iload 4, 2) := by decide +kernel
theorem dX10_comesJump_104 : decode cX10_comesJump 104 = .ok (.iconst 1, 1) := by decide +kernel
theorem dX10_comesJump_105 : decode cX10_comesJump 105 = .ok (.isub, 1) := by decide +kernel
theorem dX10_comesJump_106 : decode cX10_comesJump 106 = .ok (.iaload, 1) := by decide +kernel
theorem dX10_comesJump_107 : decode cX10_comesJump 107 = .ok (.iastore, 1) := by decide +kernel
theorem dX10_comesJump_108 : decode cX10_comesJump 108 = .ok (.iinc 4 (-1), 3) := by decide +kernel
theorem dX10_comesJump_111 : decode cX10_comesJump 111 = .ok (.goto (-41), 3) := by decide +kernel
theorem dX10_comesJump_114 : decode cX10_comesJump 114 = .ok (.aload_n 0, 1) := by decide +kernel
theorem dX10_comesJump_115 : decode cX10_comesJump 115 = .ok (.getfield 48, 3) := by decide +kernel
theorem dX10_comesJump_118 : decode cX10_comesJump 118 = .ok (.iload_n 3, 1) := by decide +kernel
theorem dX10_comesJump_119 : decode cX10_comesJump 119 = .ok (.iload_n 1, 1) := by decide +kernel
theorem dX10_comesJump_120 : decode cX10_comesJump 120 = .ok (.iastore, 1) := by decide +kernel
theorem dX10_comesJump_121 : decode cX10_comesJump 121 = .ok (.aload_n 0, 1) := by decide +kernel
theorem dX10_comesJump_122 : decode cX10_comesJump 122 = .ok (.getfield 51, 3) := by decide +kernel
theorem dX10_comesJump_125 : decode cX10_comesJump 125 = .ok (.iload_n 3, 1) := by decide +kernel
theorem dX10_comesJump_126 : decode cX10_comesJump 126 = .ok (.iload_n 2, 1) := by decide +kernel
theorem dX10_comesJump_127 : decode cX10_comesJump 127 = .ok (.iastore, 1) := by decide +kernel
theorem dX10_comesJump_128 : decode cX10_comesJump 128 = .ok (.aload_n 0, 1) := by decide +kernel
theorem dX10_comesJump_129 : decode cX10_comesJump 129 = .ok (.dup, 1) := by decide +kernel
theorem dX10_comesJump_130 : decode cX10_comesJump 130 = .ok (.getfield 257, 3) := by decide +kernel
theorem dX10_comesJump_133 : decode cX10_comesJump 133 = .ok (.iconst 1, 1) := by decide +kernel
theorem dX10_comesJump_134 : decode cX10_comesJump 134 = .ok (.iadd, 1) := by decide +kernel
theorem dX10_comesJump_135 : decode cX10_comesJump 135 = .ok (.putfield 257, 3) := by decide +kernel
theorem dX10_comesJump_138 : decode cX10_comesJump 138 = .ok (.return_, 1) := by decide +kernel
theorem dX10_tellsJumps_0 : decode cX10_tellsJumps 0 = .ok (.aload_n 0, 1) := by decide +kernel
theorem dX10_tellsJumps_1 : decode cX10_tellsJumps 1 = .ok (.iconst 0, 1) := by decide +kernel
theorem dX10_tellsJumps_2 : decode cX10_tellsJumps 2 = .ok (.putfield 257, 3) := by decide +kernel
theorem dX10_tellsJumps_5 : decode cX10_tellsJumps 5 = .ok (.iconst 0, 1) := by decide +kernel
theorem dX10_tellsJumps_6 : decode cX10_tellsJumps 6 = .ok (.istore_n 1, 1) := by decide +kernel
theorem dX10_tellsJumps_7 : decode cX10_tellsJumps 7 = .ok (.iload_n 1, 1) := by decide +kernel
theorem dX10_tellsJumps_8 : decode cX10_tellsJumps 8 = .ok (.bipush 100, 2) := by decide +kernel
theorem dX10_tellsJumps_10 : decode cX10_tellsJumps 10 = .ok (.if_icmp .ge 73, 3) := by decide +kernel
theorem dX10_tellsJumps_13 : decode cX10_tellsJumps 13 = .ok (.aload_n 0, 1) := by decide +kernel
theorem dX10_tellsJumps_14 : decode cX10_tellsJumps 14 = .ok (.iload_n 1, 1) := by decide +kernel
theorem dX10_tellsJumps_15 : decode cX10_tellsJumps 15 = .ok (.bipush 10, 2) := by decide +kernel
theorem dX10_tellsJumps_17 : decode cX10_tellsJumps 17 = .ok (.idiv, 1) := by decide +kernel
theorem dX10_tellsJumps_18 : decode cX10_tellsJumps 18 = .ok (.iload_n 1, 1) := by decide +kernel
theorem dX10_tellsJumps_19 : decode cX10_tellsJumps 19 = .ok (.bipush 10, 2) := by decide +kernel
theorem dX10_tellsJumps_21 : decode cX10_tellsJumps 21 = .ok (.irem, 1) := by decide +kernel
theorem dX10_tellsJumps_22 : decode cX10_tellsJumps 22 = .ok (.invokevirtual 273, 3) := by decide +kernel
theorem dX10_tellsJumps_25 : decode cX10_tellsJumps 25 = .ok (.istore_n 2, 1) := by decide +kernel
theorem dX10_tellsJumps_26 : decode cX10_tellsJumps 26 = .ok (.iload_n 2, 1) := by decide +kernel
theorem dX10_tellsJumps_27 : decode cX10_tellsJumps 27 = .ok (.iconst (-1), 1) := by decide +kernel
theorem dX10_tellsJumps_28 : decode cX10_tellsJumps 28 = .ok (.if_icmp .eq 49, 3) := by decide +kernel
theorem dX10_tellsJumps_31 : decode cX10_tellsJumps 31 = .ok (.aload_n 0, 1) := by decide +kernel
theorem dX10_tellsJumps_32 : decode cX10_tellsJumps 32 = .ok (.iload_n 2, 1) := by decide +kernel
theorem dX10_tellsJumps_33 : decode cX10_tellsJumps 33 = .ok (.iload_n 1, 1) := by decide +kernel
theorem dX10_tellsJumps_34 : decode cX10_tellsJumps 34 = .ok (.bipush 10, 2) := by decide +kernel
theorem dX10_tellsJumps_36 : decode cX10_tellsJumps 36 = .ok (.idiv, 1) := by decide +kernel
theorem dX10_tellsJumps_37 : decode cX10_tellsJumps 37 = .ok (.iload_n 1, 1) := by decide +kernel
theorem dX10_tellsJumps_38 : decode cX10_tellsJumps 38 = .ok (.bipush 10, 2) := by decide +kernel
theorem dX10_tellsJumps_40 : decode cX10_tellsJumps 40 = .ok (.irem, 1) := by decide +kernel
theorem dX10_tellsJumps_41 : decode cX10_tellsJumps 41 = .ok (.invokevirtual 260, 3) := by decide +kernel
theorem dX10_tellsJumps_44 : decode cX10_tellsJumps 44 = .ok (.istore_n 3, 1) := by decide +kernel
theorem dX10_tellsJumps_45 : decode cX10_tellsJumps 45 = .ok (.aload_n 0, 1) := by decide +kernel
theorem dX10_tellsJumps_46 : decode cX10_tellsJumps 46 = .ok (.iload_n 3, 1) := by decide +kernel
theorem dX10_tellsJumps_47 : decode cX10_tellsJumps 47 = .ok (.i2l, 1) := by decide +kernel
theorem dX10_tellsJumps_48 : decode cX10_tellsJumps 48 = .ok (.aload_n 0, 1) := by decide +kernel
theorem dX10_tellsJumps_49 : decode cX10_tellsJumps 49 = .ok (.getfield 45, 3) := by decide +kernel
theorem dX10_tellsJumps_52 : decode cX10_tellsJumps 52 = .ok (.iload_n 2, 1) := by decide +kernel
theorem dX10_tellsJumps_53 : decode cX10_tellsJumps 53 = .ok (.iaload, 1) := by decide +kernel
theorem dX10_tellsJumps_54 : decode cX10_tellsJumps 54 = .ok (.i2l, 1) := by decide +kernel
theorem dX10_tellsJumps_55 : decode cX10_tellsJumps 55 = .ok (.iconst 0, 1) := by decide +kernel
theorem dX10_tellsJumps_56 : decode cX10_tellsJumps 56 = .ok (.invokestatic 276, 3) := by decide +kernel
theorem dX10_tellsJumps_59 : decode cX10_tellsJumps 59 = .ok (.l2i, 1) := by decide +kernel
theorem dX10_tellsJumps_60 : decode cX10_tellsJumps 60 = .ok (.iload_n 3, 1) := by decide +kernel
theorem dX10_tellsJumps_61 : decode cX10_tellsJumps 61 = .ok (.i2l, 1) := by decide +kernel
theorem dX10_tellsJumps_62 : decode cX10_tellsJumps 62 = .ok (.aload_n 0, 1) := by decide +kernel
theorem dX10_tellsJumps_63 : decode cX10_tellsJumps 63 = .ok (.getfield 45, 3) := by decide +kernel
theorem dX10_tellsJumps_66 : decode cX10_tellsJumps 66 = .ok (.iload_n 2, 1) := by decide +kernel
theorem dX10_tellsJumps_67 : decode cX10_tellsJumps 67 = .ok (.iaload, 1) := by decide +kernel
theorem dX10_tellsJumps_68 : decode cX10_tellsJumps 68 = .ok (.i2l, 1) := by decide +kernel
theorem dX10_tellsJumps_69 : decode cX10_tellsJumps 69 = .ok (.iconst 1, 1) := by decide +kernel
theorem dX10_tellsJumps_70 : decode cX10_tellsJumps 70 = .ok (.invokestatic 276, 3) := by decide +kernel
theorem dX10_tellsJumps_73 : decode cX10_tellsJumps 73 = .ok (.l2i, 1) := by decide +kernel
theorem dX10_tellsJumps_74 : decode cX10_tellsJumps 74 = .ok (.invokevirtual 280, 3) := by decide +kernel
theorem dX10_tellsJumps_77 : decode cX10_tellsJumps 77 = .ok (.iinc 1 1, 3) := by decide +kernel
theorem dX10_tellsJumps_80 : decode cX10_tellsJumps 80 = .ok (.goto (-73), 3) := by decide +kernel
theorem dX10_tellsJumps_83 : decode cX10_tellsJumps 83 = .ok (.return_, 1) := by decide +kernel
theorem dX10_jumps_0 : decode cX10_jumps 0 = .ok (.iload_n 1, 1) := by decide +kernel
theorem dX10_jumps_1 : decode cX10_jumps 1 = .ok (.invokestatic 136, 3) := by decide +kernel
theorem dX10_jumps_4 : decode cX10_jumps 4 = .ok (.ifCond .eq 22, 3) := by decide +kernel
theorem dX10_jumps_7 : decode cX10_jumps 7 = .ok (.iload_n 3, 1) := by decide +kernel
theorem dX10_jumps_8 : decode cX10_jumps 8 = .ok (.i2l, 1) := by decide +kernel
theorem dX10_jumps_9 : decode cX10_jumps 9 = .ok (.lconst 0, 1) := by decide +kernel
theorem dX10_jumps_10 : decode cX10_jumps 10 = .ok (.lconst 1, 1) := by decide +kernel
theorem dX10_jumps_11 : decode cX10_jumps 11 = .ok (.invokestatic 115, 3) := by decide +kernel
theorem dX10_jumps_14 : decode cX10_jumps 14 = .ok (.ifCond .eq 12, 3) := by decide +kernel
theorem dX10_jumps_17 : decode cX10_jumps 17 = .ok (.aload_n 0, 1) := by decide +kernel
theorem dX10_jumps_18 : decode cX10_jumps 18 = .ok (.getfield 11, 3) := by decide +kernel
theorem dX10_jumps_21 : decode cX10_jumps 21 = .ok (.iload_n 1, 1) := by decide +kernel
theorem dX10_jumps_22 : decode cX10_jumps 22 = .ok (.iaload, 1) := by decide +kernel
theorem dX10_jumps_23 : decode cX10_jumps 23 = .ok (.ifCond .ne 7, 3) := by decide +kernel
theorem dX10_jumps_26 : decode cX10_jumps 26 = .ok (.ldc2_w 271, 3) := by decide +kernel
theorem dX10_jumps_29 : decode cX10_jumps 29 = .ok (.lreturn, 1) := by decide +kernel
theorem dX10_jumps_30 : decode cX10_jumps 30 = .ok (.aload_n 0, 1) := by decide +kernel
theorem dX10_jumps_31 : decode cX10_jumps 31 = .ok (.iload_n 1, 1) := by decide +kernel
end
section
theorem dX10_jumps_32 : decode cX10_jumps 32 = .ok (.invokevirtual 166, 3) := by decide +kernel
theorem dX10_jumps_35 : decode cX10_jumps 35 = .ok (.aload_n 0, 1) := by decide +kernel
theorem dX10_jumps_36 : decode cX10_jumps 36 = .ok (.invokevirtual 254, 3) := by decide +kernel
theorem dX10_jumps_39 : decode cX10_jumps 39 = .ok (.iload_n 2, 1) := by decide +kernel
theorem dX10_jumps_40 : decode cX10_jumps 40 = .ok (.i2l, 1) := by decide +kernel
theorem dX10_jumps_41 : decode cX10_jumps 41 = .ok (.lconst 0, 1) := by decide +kernel
theorem dX10_jumps_42 : decode cX10_jumps 42 = .ok (.aload_n 0, 1) := by decide +kernel
theorem dX10_jumps_43 : decode cX10_jumps 43 = .ok (.getfield 257, 3) := by decide +kernel
theorem dX10_jumps_46 : decode cX10_jumps 46 = .ok (.iconst 1, 1) := by decide +kernel
theorem dX10_jumps_47 : decode cX10_jumps 47 = .ok (.isub, 1) := by decide +kernel
theorem dX10_jumps_48 : decode cX10_jumps 48 = .ok (.i2l, 1) := by decide +kernel
theorem dX10_jumps_49 : decode cX10_jumps 49 = .ok (.invokestatic 115, 3) := by decide +kernel
theorem dX10_jumps_52 : decode cX10_jumps 52 = .ok (.ifCond .ne 9, 3) := by decide +kernel
theorem dX10_jumps_55 : decode cX10_jumps 55 = .ok (.ldc2_w 271, 3) := by decide +kernel
theorem dX10_jumps_58 : decode cX10_jumps 58 = .ok (.goto 24, 3) := by decide +kernel
theorem dX10_jumps_61 : decode cX10_jumps 61 = .ok (.iload_n 3, 1) := by decide +kernel
theorem dX10_jumps_62 : decode cX10_jumps 62 = .ok (.ifCond .ne 13, 3) := by decide +kernel
theorem dX10_jumps_65 : decode cX10_jumps 65 = .ok (.aload_n 0, 1) := by decide +kernel
theorem dX10_jumps_66 : decode cX10_jumps 66 = .ok (.getfield 48, 3) := by decide +kernel
theorem dX10_jumps_69 : decode cX10_jumps 69 = .ok (.iload_n 2, 1) := by decide +kernel
theorem dX10_jumps_70 : decode cX10_jumps 70 = .ok (.iaload, 1) := by decide +kernel
theorem dX10_jumps_71 : decode cX10_jumps 71 = .ok (.i2l, 1) := by decide +kernel
theorem dX10_jumps_72 : decode cX10_jumps 72 = .ok (.goto 10, 3) := by decide +kernel
theorem dX10_jumps_75 : decode cX10_jumps 75 = .ok (.aload_n 0, 1) := by decide +kernel
theorem dX10_jumps_76 : decode cX10_jumps 76 = .ok (.getfield 51, 3) := by decide +kernel
theorem dX10_jumps_79 : decode cX10_jumps 79 = .ok (.iload_n 2, 1) := by decide +kernel
theorem dX10_jumps_80 : decode cX10_jumps 80 = .ok (.iaload, 1) := by decide +kernel
theorem dX10_jumps_81 : decode cX10_jumps 81 = .ok (.i2l, 1) := by decide +kernel
theorem dX10_jumps_82 : decode cX10_jumps 82 = .ok (.lreturn, 1) := by decide +kernel
theorem dX10_lacking_0 : decode cX10_lacking 0 = .ok (.aload_n 0, 1) := by decide +kernel
theorem dX10_lacking_1 : decode cX10_lacking 1 = .ok (.iload_n 1, 1) := by decide +kernel
theorem dX10_lacking_2 : decode cX10_lacking 2 = .ok (.invokevirtual 166, 3) := by decide +kernel
theorem dX10_lacking_5 : decode cX10_lacking 5 = .ok (.iconst 0, 1) := by decide +kernel
theorem dX10_lacking_6 : decode cX10_lacking 6 = .ok (.istore 4, 2) := by decide +kernel
theorem dX10_lacking_8 : decode cX10_lacking 8 = .ok (.iconst 0, 1) := by decide +kernel
theorem dX10_lacking_9 : decode cX10_lacking 9 = .ok (.istore 5, 2) := by decide +kernel
theorem dX10_lacking_11 : decode cX10_lacking 11 = .ok (.iload 5, 2) := by decide +kernel
theorem dX10_lacking_13 : decode cX10_lacking 13 = .ok (.bipush 100, 2) := by decide +kernel
theorem dX10_lacking_15 : decode cX10_lacking 15 = .ok (.if_icmp .ge 39, 3) := by decide +kernel
theorem dX10_lacking_18 : decode cX10_lacking 18 = .ok (.iload 4, 2) := by decide +kernel
theorem dX10_lacking_20 : decode cX10_lacking 20 = .ok (.aload_n 0, 1) := by decide +kernel
theorem dX10_lacking_21 : decode cX10_lacking 21 = .ok (.iload 5, 2) := by decide +kernel
theorem dX10_lacking_23 : decode cX10_lacking 23 = .ok (.bipush 10, 2) := by decide +kernel
theorem dX10_lacking_25 : decode cX10_lacking 25 = .ok (.idiv, 1) := by decide +kernel
theorem dX10_lacking_26 : decode cX10_lacking 26 = .ok (.iload 5, 2) := by decide +kernel
theorem dX10_lacking_28 : decode cX10_lacking 28 = .ok (.bipush 10, 2) := by decide +kernel
theorem dX10_lacking_30 : decode cX10_lacking 30 = .ok (.irem, 1) := by decide +kernel
theorem dX10_lacking_31 : decode cX10_lacking 31 = .ok (.iload_n 2, 1) := by decide +kernel
theorem dX10_lacking_32 : decode cX10_lacking 32 = .ok (.iload_n 3, 1) := by decide +kernel
theorem dX10_lacking_33 : decode cX10_lacking 33 = .ok (.invokevirtual 268, 3) := by decide +kernel
theorem dX10_lacking_36 : decode cX10_lacking 36 = .ok (.iconst (-1), 1) := by decide +kernel
theorem dX10_lacking_37 : decode cX10_lacking 37 = .ok (.if_icmp .ne 7, 3) := by decide +kernel
theorem dX10_lacking_40 : decode cX10_lacking 40 = .ok (.iconst 0, 1) := by decide +kernel
theorem dX10_lacking_41 : decode cX10_lacking 41 = .ok (.goto 4, 3) := by decide +kernel
theorem dX10_lacking_44 : decode cX10_lacking 44 = .ok (.iconst 1, 1) := by decide +kernel
theorem dX10_lacking_45 : decode cX10_lacking 45 = .ok (.iadd, 1) := by decide +kernel
theorem dX10_lacking_46 : decode cX10_lacking 46 = .ok (.istore 4, 2) := by decide +kernel
theorem dX10_lacking_48 : decode cX10_lacking 48 = .ok (.iinc 5 1, 3) := by decide +kernel
theorem dX10_lacking_51 : decode cX10_lacking 51 = .ok (.goto (-40), 3) := by decide +kernel
theorem dX10_lacking_54 : decode cX10_lacking 54 = .ok (.iload 4, 2) := by decide +kernel
theorem dX10_lacking_56 : decode cX10_lacking 56 = .ok (.ireturn, 1) := by decide +kernel
theorem dX10_lacks_0 : decode cX10_lacks 0 = .ok (.iload_n 1, 1) := by decide +kernel
theorem dX10_lacks_1 : decode cX10_lacks 1 = .ok (.invokestatic 136, 3) := by decide +kernel
theorem dX10_lacks_4 : decode cX10_lacks 4 = .ok (.ifCond .ne 5, 3) := by decide +kernel
theorem dX10_lacks_7 : decode cX10_lacks 7 = .ok (.iconst (-1), 1) := by decide +kernel
theorem dX10_lacks_8 : decode cX10_lacks 8 = .ok (.ireturn, 1) := by decide +kernel
theorem dX10_lacks_9 : decode cX10_lacks 9 = .ok (.iload_n 2, 1) := by decide +kernel
theorem dX10_lacks_10 : decode cX10_lacks 10 = .ok (.iload_n 3, 1) := by decide +kernel
theorem dX10_lacks_11 : decode cX10_lacks 11 = .ok (.invokestatic 265, 3) := by decide +kernel
theorem dX10_lacks_14 : decode cX10_lacks 14 = .ok (.ifCond .ne 6, 3) := by decide +kernel
theorem dX10_lacks_17 : decode cX10_lacks 17 = .ok (.bipush (-2), 2) := by decide +kernel
theorem dX10_lacks_19 : decode cX10_lacks 19 = .ok (.ireturn, 1) := by decide +kernel
theorem dX10_lacks_20 : decode cX10_lacks 20 = .ok (.aload_n 0, 1) := by decide +kernel
theorem dX10_lacks_21 : decode cX10_lacks 21 = .ok (.getfield 11, 3) := by decide +kernel
theorem dX10_lacks_24 : decode cX10_lacks 24 = .ok (.iload_n 1, 1) := by decide +kernel
theorem dX10_lacks_25 : decode cX10_lacks 25 = .ok (.iaload, 1) := by decide +kernel
theorem dX10_lacks_26 : decode cX10_lacks 26 = .ok (.ifCond .ne 8, 3) := by decide +kernel
theorem dX10_lacks_29 : decode cX10_lacks 29 = .ok (.bipush (-3), 2) := by decide +kernel
theorem dX10_lacks_31 : decode cX10_lacks 31 = .ok (.goto 10, 3) := by decide +kernel
theorem dX10_lacks_34 : decode cX10_lacks 34 = .ok (.aload_n 0, 1) := by decide +kernel
theorem dX10_lacks_35 : decode cX10_lacks 35 = .ok (.iload_n 1, 1) := by decide +kernel
theorem dX10_lacks_36 : decode cX10_lacks 36 = .ok (.iload_n 2, 1) := by decide +kernel
theorem dX10_lacks_37 : decode cX10_lacks 37 = .ok (.iload_n 3, 1) := by decide +kernel
theorem dX10_lacks_38 : decode cX10_lacks 38 = .ok (.invokevirtual 283, 3) := by decide +kernel
theorem dX10_lacks_41 : decode cX10_lacks 41 = .ok (.ireturn, 1) := by decide +kernel
theorem dX10_begins_0 : decode cX10_begins 0 = .ok (.iconst 0, 1) := by decide +kernel
theorem dX10_begins_1 : decode cX10_begins 1 = .ok (.istore_n 1, 1) := by decide +kernel
theorem dX10_begins_2 : decode cX10_begins 2 = .ok (.iload_n 1, 1) := by decide +kernel
theorem dX10_begins_3 : decode cX10_begins 3 = .ok (.bipush 72, 2) := by decide +kernel
theorem dX10_begins_5 : decode cX10_begins 5 = .ok (.if_icmp .ge 26, 3) := by decide +kernel
theorem dX10_begins_8 : decode cX10_begins 8 = .ok (.aload_n 0, 1) := by decide +kernel
theorem dX10_begins_9 : decode cX10_begins 9 = .ok (.getfield 54, 3) := by decide +kernel
theorem dX10_begins_12 : decode cX10_begins 12 = .ok (.iload_n 1, 1) := by decide +kernel
theorem dX10_begins_13 : decode cX10_begins 13 = .ok (.iload_n 1, 1) := by decide +kernel
theorem dX10_begins_14 : decode cX10_begins 14 = .ok (.ifCond .ne 7, 3) := by decide +kernel
theorem dX10_begins_17 : decode cX10_begins 17 = .ok (.iconst 0, 1) := by decide +kernel
theorem dX10_begins_18 : decode cX10_begins 18 = .ok (.goto 6, 3) := by decide +kernel
theorem dX10_begins_21 : decode cX10_begins 21 = .ok (.sipush 1000, 3) := by decide +kernel
theorem dX10_begins_24 : decode cX10_begins 24 = .ok (.iastore, 1) := by decide +kernel
theorem dX10_begins_25 : decode cX10_begins 25 = .ok (.iinc 1 1, 3) := by decide +kernel
theorem dX10_begins_28 : decode cX10_begins 28 = .ok (.goto (-26), 3) := by decide +kernel
theorem dX10_begins_31 : decode cX10_begins 31 = .ok (.return_, 1) := by decide +kernel
theorem dX10_times_0 : decode cX10_times 0 = .ok (.iconst 0, 1) := by decide +kernel
theorem dX10_times_1 : decode cX10_times 1 = .ok (.istore_n 2, 1) := by decide +kernel
theorem dX10_times_2 : decode cX10_times 2 = .ok (.iload_n 2, 1) := by decide +kernel
theorem dX10_times_3 : decode cX10_times 3 = .ok (.bipush 72, 2) := by decide +kernel
theorem dX10_times_5 : decode cX10_times 5 = .ok (.if_icmp .ge 18, 3) := by decide +kernel
theorem dX10_times_8 : decode cX10_times 8 = .ok (.aload_n 0, 1) := by decide +kernel
theorem dX10_times_9 : decode cX10_times 9 = .ok (.getfield 57, 3) := by decide +kernel
theorem dX10_times_12 : decode cX10_times 12 = .ok (.iload_n 2, 1) := by decide +kernel
theorem dX10_times_13 : decode cX10_times 13 = .ok (.sipush 1000, 3) := by decide +kernel
theorem dX10_times_16 : decode cX10_times 16 = .ok (.iastore, 1) := by decide +kernel
theorem dX10_times_17 : decode cX10_times 17 = .ok (.iinc 2 1, 3) := by decide +kernel
theorem dX10_times_20 : decode cX10_times 20 = .ok (.goto (-18), 3) := by decide +kernel
theorem dX10_times_23 : decode cX10_times 23 = .ok (.iconst 0, 1) := by decide +kernel
theorem dX10_times_24 : decode cX10_times 24 = .ok (.istore_n 2, 1) := by decide +kernel
theorem dX10_times_25 : decode cX10_times 25 = .ok (.iload_n 2, 1) := by decide +kernel
theorem dX10_times_26 : decode cX10_times 26 = .ok (.aload_n 0, 1) := by decide +kernel
theorem dX10_times_27 : decode cX10_times 27 = .ok (.getfield 11, 3) := by decide +kernel
theorem dX10_times_30 : decode cX10_times 30 = .ok (.iload_n 1, 1) := by decide +kernel
theorem dX10_times_31 : decode cX10_times 31 = .ok (.iaload, 1) := by decide +kernel
theorem dX10_times_32 : decode cX10_times 32 = .ok (.if_icmp .ge 72, 3) := by decide +kernel
theorem dX10_times_35 : decode cX10_times 35 = .ok (.iconst 0, 1) := by decide +kernel
theorem dX10_times_36 : decode cX10_times 36 = .ok (.istore_n 3, 1) := by decide +kernel
theorem dX10_times_37 : decode cX10_times 37 = .ok (.iload_n 3, 1) := by decide +kernel
theorem dX10_times_38 : decode cX10_times 38 = .ok (.aload_n 0, 1) := by decide +kernel
theorem dX10_times_39 : decode cX10_times 39 = .ok (.iload_n 1, 1) := by decide +kernel
theorem dX10_times_40 : decode cX10_times 40 = .ok (.iload_n 2, 1) := by decide +kernel
theorem dX10_times_41 : decode cX10_times 41 = .ok (.invokevirtual 125, 3) := by decide +kernel
theorem dX10_times_44 : decode cX10_times 44 = .ok (.iadd, 1) := by decide +kernel
theorem dX10_times_45 : decode cX10_times 45 = .ok (.bipush 72, 2) := by decide +kernel
theorem dX10_times_47 : decode cX10_times 47 = .ok (.if_icmp .ge 51, 3) := by decide +kernel
theorem dX10_times_50 : decode cX10_times 50 = .ok (.aload_n 0, 1) := by decide +kernel
theorem dX10_times_51 : decode cX10_times 51 = .ok (.getfield 57, 3) := by decide +kernel
theorem dX10_times_54 : decode cX10_times 54 = .ok (.iload_n 3, 1) := by decide +kernel
theorem dX10_times_55 : decode cX10_times 55 = .ok (.aload_n 0, 1) := by decide +kernel
theorem dX10_times_56 : decode cX10_times 56 = .ok (.iload_n 1, 1) := by decide +kernel
theorem dX10_times_57 : decode cX10_times 57 = .ok (.iload_n 2, 1) := by decide +kernel
theorem dX10_times_58 : decode cX10_times 58 = .ok (.invokevirtual 125, 3) := by decide +kernel
theorem dX10_times_61 : decode cX10_times 61 = .ok (.iadd, 1) := by decide +kernel
theorem dX10_times_62 : decode cX10_times 62 = .ok (.aload_n 0, 1) := by decide +kernel
theorem dX10_times_63 : decode cX10_times 63 = .ok (.getfield 57, 3) := by decide +kernel
theorem dX10_times_66 : decode cX10_times 66 = .ok (.iload_n 3, 1) := by decide +kernel
theorem dX10_times_67 : decode cX10_times 67 = .ok (.aload_n 0, 1) := by decide +kernel
theorem dX10_times_68 : decode cX10_times 68 = .ok (.iload_n 1, 1) := by decide +kernel
theorem dX10_times_69 : decode cX10_times 69 = .ok (.iload_n 2, 1) := by decide +kernel
theorem dX10_times_70 : decode cX10_times 70 = .ok (.invokevirtual 125, 3) := by decide +kernel
theorem dX10_times_73 : decode cX10_times 73 = .ok (.iadd, 1) := by decide +kernel
theorem dX10_times_74 : decode cX10_times 74 = .ok (.iaload, 1) := by decide +kernel
theorem dX10_times_75 : decode cX10_times 75 = .ok (.aload_n 0, 1) := by decide +kernel
theorem dX10_times_76 : decode cX10_times 76 = .ok (.getfield 54, 3) := by decide +kernel
theorem dX10_times_79 : decode cX10_times 79 = .ok (.iload_n 3, 1) := by decide +kernel
theorem dX10_times_80 : decode cX10_times 80 = .ok (.iaload, 1) := by decide +kernel
theorem dX10_times_81 : decode cX10_times 81 = .ok (.aload_n 0, 1) := by decide +kernel
theorem dX10_times_82 : decode cX10_times 82 = .ok (.iload_n 1, 1) := by decide +kernel
theorem dX10_times_83 : decode cX10_times 83 = .ok (.iload_n 2, 1) := by decide +kernel
theorem dX10_times_84 : decode cX10_times 84 = .ok (.invokevirtual 129, 3) := by decide +kernel
theorem dX10_times_87 : decode cX10_times 87 = .ok (.iadd, 1) := by decide +kernel
theorem dX10_times_88 : decode cX10_times 88 = .ok (.invokestatic 216, 3) := by decide +kernel
theorem dX10_times_91 : decode cX10_times 91 = .ok (.iastore, 1) := by decide +kernel
theorem dX10_times_92 : decode cX10_times 92 = .ok (.iinc 3 1, 3) := by decide +kernel
theorem dX10_times_95 : decode cX10_times 95 = .ok (.goto (-58), 3) := by decide +kernel
theorem dX10_times_98 : decode cX10_times 98 = .ok (.iinc 2 1, 3) := by decide +kernel
theorem dX10_times_101 : decode cX10_times 101 = .ok (.goto (-76), 3) := by decide +kernel
theorem dX10_times_104 : decode cX10_times 104 = .ok (.iconst 0, 1) := by decide +kernel
theorem dX10_times_105 : decode cX10_times 105 = .ok (.istore_n 2, 1) := by decide +kernel
theorem dX10_times_106 : decode cX10_times 106 = .ok (.iload_n 2, 1) := by decide +kernel
theorem dX10_times_107 : decode cX10_times 107 = .ok (.bipush 72, 2) := by decide +kernel
theorem dX10_times_109 : decode cX10_times 109 = .ok (.if_icmp .ge 27, 3) := by decide +kernel
theorem dX10_times_112 : decode cX10_times 112 = .ok (.aload_n 0, 1) := by decide +kernel
theorem dX10_times_113 : decode cX10_times 113 = .ok (.getfield 54, 3) := by decide +kernel
theorem dX10_times_116 : decode cX10_times 116 = .ok (.iload_n 2, 1) := by decide +kernel
theorem dX10_times_117 : decode cX10_times 117 = .ok (.aload_n 0, 1) := by decide +kernel
theorem dX10_times_118 : decode cX10_times 118 = .ok (.getfield 57, 3) := by decide +kernel
theorem dX10_times_121 : decode cX10_times 121 = .ok (.iload_n 2, 1) := by decide +kernel
theorem dX10_times_122 : decode cX10_times 122 = .ok (.iaload, 1) := by decide +kernel
theorem dX10_times_123 : decode cX10_times 123 = .ok (.sipush 1000, 3) := by decide +kernel
theorem dX10_times_126 : decode cX10_times 126 = .ok (.invokestatic 216, 3) := by decide +kernel
theorem dX10_times_129 : decode cX10_times 129 = .ok (.iastore, 1) := by decide +kernel
theorem dX10_times_130 : decode cX10_times 130 = .ok (.iinc 2 1, 3) := by decide +kernel
theorem dX10_times_133 : decode cX10_times 133 = .ok (.goto (-27), 3) := by decide +kernel
theorem dX10_times_136 : decode cX10_times 136 = .ok (.return_, 1) := by decide +kernel
theorem dX10_settles_0 : decode cX10_settles 0 = .ok (.iconst 1, 1) := by decide +kernel
theorem dX10_settles_1 : decode cX10_settles 1 = .ok (.istore_n 1, 1) := by decide +kernel
theorem dX10_settles_2 : decode cX10_settles 2 = .ok (.iload_n 1, 1) := by decide +kernel
theorem dX10_settles_3 : decode cX10_settles 3 = .ok (.bipush 72, 2) := by decide +kernel
theorem dX10_settles_5 : decode cX10_settles 5 = .ok (.if_icmp .ge 32, 3) := by decide +kernel
theorem dX10_settles_8 : decode cX10_settles 8 = .ok (.aload_n 0, 1) := by decide +kernel
theorem dX10_settles_9 : decode cX10_settles 9 = .ok (.getfield 54, 3) := by decide +kernel
theorem dX10_settles_12 : decode cX10_settles 12 = .ok (.iload_n 1, 1) := by decide +kernel
theorem dX10_settles_13 : decode cX10_settles 13 = .ok (.aload_n 0, 1) := by decide +kernel
theorem dX10_settles_14 : decode cX10_settles 14 = .ok (.getfield 54, 3) := by decide +kernel
theorem dX10_settles_17 : decode cX10_settles 17 = .ok (.iload_n 1, 1) := by decide +kernel
theorem dX10_settles_18 : decode cX10_settles 18 = .ok (.iaload, 1) := by decide +kernel
theorem dX10_settles_19 : decode cX10_settles 19 = .ok (.aload_n 0, 1) := by decide +kernel
theorem dX10_settles_20 : decode cX10_settles 20 = .ok (.getfield 54, 3) := by decide +kernel
theorem dX10_settles_23 : decode cX10_settles 23 = .ok (.iload_n 1, 1) := by decide +kernel
theorem dX10_settles_24 : decode cX10_settles 24 = .ok (.iconst 1, 1) := by decide +kernel
theorem dX10_settles_25 : decode cX10_settles 25 = .ok (.isub, 1) := by decide +kernel
theorem dX10_settles_26 : decode cX10_settles 26 = .ok (.iaload, 1) := by decide +kernel
theorem dX10_settles_27 : decode cX10_settles 27 = .ok (.invokestatic 216, 3) := by decide +kernel
theorem dX10_settles_30 : decode cX10_settles 30 = .ok (.iastore, 1) := by decide +kernel
theorem dX10_settles_31 : decode cX10_settles 31 = .ok (.iinc 1 1, 3) := by decide +kernel
theorem dX10_settles_34 : decode cX10_settles 34 = .ok (.goto (-32), 3) := by decide +kernel
theorem dX10_settles_37 : decode cX10_settles 37 = .ok (.return_, 1) := by decide +kernel
theorem dX10_powers_0 : decode cX10_powers 0 = .ok (.aload_n 0, 1) := by decide +kernel
theorem dX10_powers_1 : decode cX10_powers 1 = .ok (.invokevirtual 286, 3) := by decide +kernel
theorem dX10_powers_4 : decode cX10_powers 4 = .ok (.iconst 0, 1) := by decide +kernel
theorem dX10_powers_5 : decode cX10_powers 5 = .ok (.istore_n 3, 1) := by decide +kernel
theorem dX10_powers_6 : decode cX10_powers 6 = .ok (.iload_n 3, 1) := by decide +kernel
theorem dX10_powers_7 : decode cX10_powers 7 = .ok (.iload_n 2, 1) := by decide +kernel
theorem dX10_powers_8 : decode cX10_powers 8 = .ok (.if_icmp .ge 14, 3) := by decide +kernel
theorem dX10_powers_11 : decode cX10_powers 11 = .ok (.aload_n 0, 1) := by decide +kernel
theorem dX10_powers_12 : decode cX10_powers 12 = .ok (.iload_n 1, 1) := by decide +kernel
theorem dX10_powers_13 : decode cX10_powers 13 = .ok (.invokevirtual 289, 3) := by decide +kernel
theorem dX10_powers_16 : decode cX10_powers 16 = .ok (.iinc 3 1, 3) := by decide +kernel
theorem dX10_powers_19 : decode cX10_powers 19 = .ok (.goto (-13), 3) := by decide +kernel
theorem dX10_powers_22 : decode cX10_powers 22 = .ok (.return_, 1) := by decide +kernel
theorem dX10_heightAt_0 : decode cX10_heightAt 0 = .ok (.aload_n 0, 1) := by decide +kernel
theorem dX10_heightAt_1 : decode cX10_heightAt 1 = .ok (.invokevirtual 292, 3) := by decide +kernel
theorem dX10_heightAt_4 : decode cX10_heightAt 4 = .ok (.aload_n 0, 1) := by decide +kernel
theorem dX10_heightAt_5 : decode cX10_heightAt 5 = .ok (.getfield 54, 3) := by decide +kernel
theorem dX10_heightAt_8 : decode cX10_heightAt 8 = .ok (.iload_n 1, 1) := by decide +kernel
theorem dX10_heightAt_9 : decode cX10_heightAt 9 = .ok (.iaload, 1) := by decide +kernel
theorem dX10_heightAt_10 : decode cX10_heightAt 10 = .ok (.sipush 1000, 3) := by decide +kernel
theorem dX10_heightAt_13 : decode cX10_heightAt 13 = .ok (.if_icmp .ne 8, 3) := by decide +kernel
theorem dX10_heightAt_16 : decode cX10_heightAt 16 = .ok (.bipush (-5), 2) := by decide +kernel
theorem dX10_heightAt_18 : decode cX10_heightAt 18 = .ok (.goto 9, 3) := by decide +kernel
theorem dX10_heightAt_21 : decode cX10_heightAt 21 = .ok (.aload_n 0, 1) := by decide +kernel
theorem dX10_heightAt_22 : decode cX10_heightAt 22 = .ok (.getfield 54, 3) := by decide +kernel
theorem dX10_heightAt_25 : decode cX10_heightAt 25 = .ok (.iload_n 1, 1) := by decide +kernel
theorem dX10_heightAt_26 : decode cX10_heightAt 26 = .ok (.iaload, 1) := by decide +kernel
theorem dX10_heightAt_27 : decode cX10_heightAt 27 = .ok (.ireturn, 1) := by decide +kernel
theorem dX10_heightOf_0 : decode cX10_heightOf 0 = .ok (.aload_n 0, 1) := by decide +kernel
theorem dX10_heightOf_1 : decode cX10_heightOf 1 = .ok (.iload_n 1, 1) := by decide +kernel
theorem dX10_heightOf_2 : decode cX10_heightOf 2 = .ok (.iconst 1, 1) := by decide +kernel
theorem dX10_heightOf_3 : decode cX10_heightOf 3 = .ok (.invokevirtual 295, 3) := by decide +kernel
theorem dX10_heightOf_6 : decode cX10_heightOf 6 = .ok (.aload_n 0, 1) := by decide +kernel
theorem dX10_heightOf_7 : decode cX10_heightOf 7 = .ok (.iload_n 2, 1) := by decide +kernel
theorem dX10_heightOf_8 : decode cX10_heightOf 8 = .ok (.invokevirtual 298, 3) := by decide +kernel
theorem dX10_heightOf_11 : decode cX10_heightOf 11 = .ok (.ireturn, 1) := by decide +kernel
theorem dX10_sumHeight_0 : decode cX10_sumHeight 0 = .ok (.aload_n 0, 1) := by decide +kernel
theorem dX10_sumHeight_1 : decode cX10_sumHeight 1 = .ok (.iconst 0, 1) := by decide +kernel
theorem dX10_sumHeight_2 : decode cX10_sumHeight 2 = .ok (.iload_n 1, 1) := by decide +kernel
theorem dX10_sumHeight_3 : decode cX10_sumHeight 3 = .ok (.invokevirtual 301, 3) := by decide +kernel
theorem dX10_sumHeight_6 : decode cX10_sumHeight 6 = .ok (.istore_n 2, 1) := by decide +kernel
theorem dX10_sumHeight_7 : decode cX10_sumHeight 7 = .ok (.aload_n 0, 1) := by decide +kernel
theorem dX10_sumHeight_8 : decode cX10_sumHeight 8 = .ok (.iconst 1, 1) := by decide +kernel
theorem dX10_sumHeight_9 : decode cX10_sumHeight 9 = .ok (.iload_n 1, 1) := by decide +kernel
theorem dX10_sumHeight_10 : decode cX10_sumHeight 10 = .ok (.invokevirtual 301, 3) := by decide +kernel
theorem dX10_sumHeight_13 : decode cX10_sumHeight 13 = .ok (.istore_n 3, 1) := by decide +kernel
theorem dX10_sumHeight_14 : decode cX10_sumHeight 14 = .ok (.iload_n 2, 1) := by decide +kernel
theorem dX10_sumHeight_15 : decode cX10_sumHeight 15 = .ok (.bipush (-5), 2) := by decide +kernel
theorem dX10_sumHeight_17 : decode cX10_sumHeight 17 = .ok (.if_icmp .ne 7, 3) := by decide +kernel
theorem dX10_sumHeight_20 : decode cX10_sumHeight 20 = .ok (.iload_n 3, 1) := by decide +kernel
theorem dX10_sumHeight_21 : decode cX10_sumHeight 21 = .ok (.goto 18, 3) := by decide +kernel
theorem dX10_sumHeight_24 : decode cX10_sumHeight 24 = .ok (.iload_n 3, 1) := by decide +kernel
theorem dX10_sumHeight_25 : decode cX10_sumHeight 25 = .ok (.bipush (-5), 2) := by decide +kernel
theorem dX10_sumHeight_27 : decode cX10_sumHeight 27 = .ok (.if_icmp .ne 7, 3) := by decide +kernel
theorem dX10_sumHeight_30 : decode cX10_sumHeight 30 = .ok (.iload_n 2, 1) := by decide +kernel
theorem dX10_sumHeight_31 : decode cX10_sumHeight 31 = .ok (.goto 8, 3) := by decide +kernel
theorem dX10_sumHeight_34 : decode cX10_sumHeight 34 = .ok (.iload_n 2, 1) := by decide +kernel
theorem dX10_sumHeight_35 : decode cX10_sumHeight 35 = .ok (.iload_n 3, 1) := by decide +kernel
theorem dX10_sumHeight_36 : decode cX10_sumHeight 36 = .ok (.invokestatic 216, 3) := by decide +kernel
theorem dX10_sumHeight_39 : decode cX10_sumHeight 39 = .ok (.ireturn, 1) := by decide +kernel
theorem dX10_height_0 : decode cX10_height 0 = .ok (.iload_n 1, 1) := by decide +kernel
theorem dX10_height_1 : decode cX10_height 1 = .ok (.invokestatic 136, 3) := by decide +kernel
theorem dX10_height_4 : decode cX10_height 4 = .ok (.ifCond .eq 29, 3) := by decide +kernel
theorem dX10_height_7 : decode cX10_height 7 = .ok (.iload_n 2, 1) := by decide +kernel
theorem dX10_height_8 : decode cX10_height 8 = .ok (.i2l, 1) := by decide +kernel
theorem dX10_height_9 : decode cX10_height 9 = .ok (.lconst 0, 1) := by decide +kernel
theorem dX10_height_10 : decode cX10_height 10 = .ok (.ldc2_w 241, 3) := by decide +kernel
theorem dX10_height_13 : decode cX10_height 13 = .ok (.invokestatic 115, 3) := by decide +kernel
theorem dX10_height_16 : decode cX10_height 16 = .ok (.ifCond .ne 19, 3) := by decide +kernel
theorem dX10_height_19 : decode cX10_height 19 = .ok (.iload_n 2, 1) := by decide +kernel
theorem dX10_height_20 : decode cX10_height 20 = .ok (.i2l, 1) := by decide +kernel
theorem dX10_height_21 : decode cX10_height 21 = .ok (.ldc2_w 304, 3) := by decide +kernel
theorem dX10_height_24 : decode cX10_height 24 = .ok (.ldc2_w 306, 3) := by decide +kernel
theorem dX10_height_27 : decode cX10_height 27 = .ok (.invokestatic 115, 3) := by decide +kernel
theorem dX10_height_30 : decode cX10_height 30 = .ok (.ifCond .ne 5, 3) := by decide +kernel
theorem dX10_height_33 : decode cX10_height 33 = .ok (.iconst (-1), 1) := by decide +kernel
theorem dX10_height_34 : decode cX10_height 34 = .ok (.ireturn, 1) := by decide +kernel
theorem dX10_height_35 : decode cX10_height 35 = .ok (.iload_n 3, 1) := by decide +kernel
theorem dX10_height_36 : decode cX10_height 36 = .ok (.i2l, 1) := by decide +kernel
theorem dX10_height_37 : decode cX10_height 37 = .ok (.lconst 0, 1) := by decide +kernel
theorem dX10_height_38 : decode cX10_height 38 = .ok (.ldc2_w 308, 3) := by decide +kernel
theorem dX10_height_41 : decode cX10_height 41 = .ok (.invokestatic 115, 3) := by decide +kernel
theorem dX10_height_44 : decode cX10_height 44 = .ok (.ifCond .ne 6, 3) := by decide +kernel
theorem dX10_height_47 : decode cX10_height 47 = .ok (.bipush (-2), 2) := by decide +kernel
theorem dX10_height_49 : decode cX10_height 49 = .ok (.ireturn, 1) := by decide +kernel
theorem dX10_height_50 : decode cX10_height 50 = .ok (.iload_n 2, 1) := by decide +kernel
theorem dX10_height_51 : decode cX10_height 51 = .ok (.ifCond .ne 10, 3) := by decide +kernel
theorem dX10_height_54 : decode cX10_height 54 = .ok (.aload_n 0, 1) := by decide +kernel
theorem dX10_height_55 : decode cX10_height 55 = .ok (.iload_n 1, 1) := by decide +kernel
theorem dX10_height_56 : decode cX10_height 56 = .ok (.iload_n 3, 1) := by decide +kernel
theorem dX10_height_57 : decode cX10_height 57 = .ok (.invokevirtual 301, 3) := by decide +kernel
theorem dX10_height_60 : decode cX10_height 60 = .ok (.ireturn, 1) := by decide +kernel
theorem dX10_height_61 : decode cX10_height 61 = .ok (.iload_n 2, 1) := by decide +kernel
theorem dX10_height_62 : decode cX10_height 62 = .ok (.iconst 1, 1) := by decide +kernel
theorem dX10_height_63 : decode cX10_height 63 = .ok (.if_icmp .ne 9, 3) := by decide +kernel
theorem dX10_height_66 : decode cX10_height 66 = .ok (.aload_n 0, 1) := by decide +kernel
theorem dX10_height_67 : decode cX10_height 67 = .ok (.iload_n 3, 1) := by decide +kernel
theorem dX10_height_68 : decode cX10_height 68 = .ok (.invokevirtual 310, 3) := by decide +kernel
theorem dX10_height_71 : decode cX10_height 71 = .ok (.ireturn, 1) := by decide +kernel
theorem dX10_height_72 : decode cX10_height 72 = .ok (.iload_n 2, 1) := by decide +kernel
theorem dX10_height_73 : decode cX10_height 73 = .ok (.iconst 2, 1) := by decide +kernel
theorem dX10_height_74 : decode cX10_height 74 = .ok (.if_icmp .ne 17, 3) := by decide +kernel
theorem dX10_height_77 : decode cX10_height 77 = .ok (.aload_n 0, 1) := by decide +kernel
theorem dX10_height_78 : decode cX10_height 78 = .ok (.iconst 0, 1) := by decide +kernel
theorem dX10_height_79 : decode cX10_height 79 = .ok (.iconst 1, 1) := by decide +kernel
theorem dX10_height_80 : decode cX10_height 80 = .ok (.invokevirtual 295, 3) := by decide +kernel
theorem dX10_height_83 : decode cX10_height 83 = .ok (.aload_n 0, 1) := by decide +kernel
theorem dX10_height_84 : decode cX10_height 84 = .ok (.iconst 1, 1) := by decide +kernel
theorem dX10_height_85 : decode cX10_height 85 = .ok (.invokevirtual 289, 3) := by decide +kernel
theorem dX10_height_88 : decode cX10_height 88 = .ok (.goto 12, 3) := by decide +kernel
theorem dX10_height_91 : decode cX10_height 91 = .ok (.aload_n 0, 1) := by decide +kernel
theorem dX10_height_92 : decode cX10_height 92 = .ok (.iload_n 1, 1) := by decide +kernel
theorem dX10_height_93 : decode cX10_height 93 = .ok (.iload_n 2, 1) := by decide +kernel
theorem dX10_height_94 : decode cX10_height 94 = .ok (.bipush 10, 2) := by decide +kernel
theorem dX10_height_96 : decode cX10_height 96 = .ok (.isub, 1) := by decide +kernel
theorem dX10_height_97 : decode cX10_height 97 = .ok (.invokevirtual 295, 3) := by decide +kernel
theorem dX10_height_100 : decode cX10_height 100 = .ok (.aload_n 0, 1) := by decide +kernel
theorem dX10_height_101 : decode cX10_height 101 = .ok (.iload_n 3, 1) := by decide +kernel
theorem dX10_height_102 : decode cX10_height 102 = .ok (.invokevirtual 298, 3) := by decide +kernel
theorem dX10_height_105 : decode cX10_height 105 = .ok (.ireturn, 1) := by decide +kernel
theorem dX10_isReduction_0 : decode cX10_isReduction 0 = .ok (.aload_n 0, 1) := by decide +kernel
theorem dX10_isReduction_1 : decode cX10_isReduction 1 = .ok (.getfield 11, 3) := by decide +kernel
theorem dX10_isReduction_4 : decode cX10_isReduction 4 = .ok (.iconst 0, 1) := by decide +kernel
theorem dX10_isReduction_5 : decode cX10_isReduction 5 = .ok (.iaload, 1) := by decide +kernel
theorem dX10_isReduction_6 : decode cX10_isReduction 6 = .ok (.ifCond .eq 12, 3) := by decide +kernel
theorem dX10_isReduction_9 : decode cX10_isReduction 9 = .ok (.aload_n 0, 1) := by decide +kernel
theorem dX10_isReduction_10 : decode cX10_isReduction 10 = .ok (.getfield 11, 3) := by decide +kernel
theorem dX10_isReduction_13 : decode cX10_isReduction 13 = .ok (.iconst 1, 1) := by decide +kernel
theorem dX10_isReduction_14 : decode cX10_isReduction 14 = .ok (.iaload, 1) := by decide +kernel
theorem dX10_isReduction_15 : decode cX10_isReduction 15 = .ok (.ifCond .ne 5, 3) := by decide +kernel
theorem dX10_isReduction_18 : decode cX10_isReduction 18 = .ok (.iconst 0, 1) := by decide +kernel
theorem dX10_isReduction_19 : decode cX10_isReduction 19 = .ok (.ireturn, 1) := by decide +kernel
theorem dX10_isReduction_20 : decode cX10_isReduction 20 = .ok (.iconst 1, 1) := by decide +kernel
theorem dX10_isReduction_21 : decode cX10_isReduction 21 = .ok (.istore_n 1, 1) := by decide +kernel
theorem dX10_isReduction_22 : decode cX10_isReduction 22 = .ok (.iconst 0, 1) := by decide +kernel
theorem dX10_isReduction_23 : decode cX10_isReduction 23 = .ok (.istore_n 2, 1) := by decide +kernel
theorem dX10_isReduction_24 : decode cX10_isReduction 24 = .ok (.iload_n 2, 1) := by decide +kernel
theorem dX10_isReduction_25 : decode cX10_isReduction 25 = .ok (.aload_n 0, 1) := by decide +kernel
theorem dX10_isReduction_26 : decode cX10_isReduction 26 = .ok (.getfield 11, 3) := by decide +kernel
theorem dX10_isReduction_29 : decode cX10_isReduction 29 = .ok (.iconst 0, 1) := by decide +kernel
theorem dX10_isReduction_30 : decode cX10_isReduction 30 = .ok (.iaload, 1) := by decide +kernel
theorem dX10_isReduction_31 : decode cX10_isReduction 31 = .ok (.if_icmp .ge 39, 3) := by decide +kernel
theorem dX10_isReduction_34 : decode cX10_isReduction 34 = .ok (.iload_n 1, 1) := by decide +kernel
theorem dX10_isReduction_35 : decode cX10_isReduction 35 = .ok (.ifCond .eq 27, 3) := by decide +kernel
theorem dX10_isReduction_38 : decode cX10_isReduction 38 = .ok (.aload_n 0, 1) := by decide +kernel
theorem dX10_isReduction_39 : decode cX10_isReduction 39 = .ok (.iconst 1, 1) := by decide +kernel
theorem dX10_isReduction_40 : decode cX10_isReduction 40 = .ok (.aload_n 0, 1) := by decide +kernel
theorem dX10_isReduction_41 : decode cX10_isReduction 41 = .ok (.iconst 0, 1) := by decide +kernel
theorem dX10_isReduction_42 : decode cX10_isReduction 42 = .ok (.iload_n 2, 1) := by decide +kernel
theorem dX10_isReduction_43 : decode cX10_isReduction 43 = .ok (.invokevirtual 125, 3) := by decide +kernel
theorem dX10_isReduction_46 : decode cX10_isReduction 46 = .ok (.aload_n 0, 1) := by decide +kernel
theorem dX10_isReduction_47 : decode cX10_isReduction 47 = .ok (.iconst 0, 1) := by decide +kernel
theorem dX10_isReduction_48 : decode cX10_isReduction 48 = .ok (.iload_n 2, 1) := by decide +kernel
theorem dX10_isReduction_49 : decode cX10_isReduction 49 = .ok (.invokevirtual 129, 3) := by decide +kernel
theorem dX10_isReduction_52 : decode cX10_isReduction 52 = .ok (.invokevirtual 234, 3) := by decide +kernel
theorem dX10_isReduction_55 : decode cX10_isReduction 55 = .ok (.ifCond .eq 7, 3) := by decide +kernel
theorem dX10_isReduction_58 : decode cX10_isReduction 58 = .ok (.iconst 1, 1) := by decide +kernel
theorem dX10_isReduction_59 : decode cX10_isReduction 59 = .ok (.goto 4, 3) := by decide +kernel
theorem dX10_isReduction_62 : decode cX10_isReduction 62 = .ok (.iconst 0, 1) := by decide +kernel
theorem dX10_isReduction_63 : decode cX10_isReduction 63 = .ok (.istore_n 1, 1) := by decide +kernel
theorem dX10_isReduction_64 : decode cX10_isReduction 64 = .ok (.iinc 2 1, 3) := by decide +kernel
theorem dX10_isReduction_67 : decode cX10_isReduction 67 = .ok (.goto (-43), 3) := by decide +kernel
theorem dX10_isReduction_70 : decode cX10_isReduction 70 = .ok (.aload_n 0, 1) := by decide +kernel
theorem dX10_isReduction_71 : decode cX10_isReduction 71 = .ok (.iconst 0, 1) := by decide +kernel
theorem dX10_isReduction_72 : decode cX10_isReduction 72 = .ok (.invokevirtual 166, 3) := by decide +kernel
theorem dX10_isReduction_75 : decode cX10_isReduction 75 = .ok (.iconst 0, 1) := by decide +kernel
theorem dX10_isReduction_76 : decode cX10_isReduction 76 = .ok (.istore_n 2, 1) := by decide +kernel
theorem dX10_isReduction_77 : decode cX10_isReduction 77 = .ok (.iload_n 2, 1) := by decide +kernel
theorem dX10_isReduction_78 : decode cX10_isReduction 78 = .ok (.aload_n 0, 1) := by decide +kernel
theorem dX10_isReduction_79 : decode cX10_isReduction 79 = .ok (.getfield 11, 3) := by decide +kernel
theorem dX10_isReduction_82 : decode cX10_isReduction 82 = .ok (.iconst 1, 1) := by decide +kernel
theorem dX10_isReduction_83 : decode cX10_isReduction 83 = .ok (.iaload, 1) := by decide +kernel
theorem dX10_isReduction_84 : decode cX10_isReduction 84 = .ok (.if_icmp .ge 38, 3) := by decide +kernel
theorem dX10_isReduction_87 : decode cX10_isReduction 87 = .ok (.iload_n 1, 1) := by decide +kernel
theorem dX10_isReduction_88 : decode cX10_isReduction 88 = .ok (.ifCond .eq 26, 3) := by decide +kernel
theorem dX10_isReduction_91 : decode cX10_isReduction 91 = .ok (.aload_n 0, 1) := by decide +kernel
theorem dX10_isReduction_92 : decode cX10_isReduction 92 = .ok (.aload_n 0, 1) := by decide +kernel
theorem dX10_isReduction_93 : decode cX10_isReduction 93 = .ok (.iconst 1, 1) := by decide +kernel
theorem dX10_isReduction_94 : decode cX10_isReduction 94 = .ok (.iload_n 2, 1) := by decide +kernel
theorem dX10_isReduction_95 : decode cX10_isReduction 95 = .ok (.invokevirtual 125, 3) := by decide +kernel
theorem dX10_isReduction_98 : decode cX10_isReduction 98 = .ok (.aload_n 0, 1) := by decide +kernel
theorem dX10_isReduction_99 : decode cX10_isReduction 99 = .ok (.iconst 1, 1) := by decide +kernel
theorem dX10_isReduction_100 : decode cX10_isReduction 100 = .ok (.iload_n 2, 1) := by decide +kernel
theorem dX10_isReduction_101 : decode cX10_isReduction 101 = .ok (.invokevirtual 129, 3) := by decide +kernel
theorem dX10_isReduction_104 : decode cX10_isReduction 104 = .ok (.invokevirtual 163, 3) := by decide +kernel
theorem dX10_isReduction_107 : decode cX10_isReduction 107 = .ok (.ifCond .eq 7, 3) := by decide +kernel
theorem dX10_isReduction_110 : decode cX10_isReduction 110 = .ok (.iconst 1, 1) := by decide +kernel
theorem dX10_isReduction_111 : decode cX10_isReduction 111 = .ok (.goto 4, 3) := by decide +kernel
theorem dX10_isReduction_114 : decode cX10_isReduction 114 = .ok (.iconst 0, 1) := by decide +kernel
theorem dX10_isReduction_115 : decode cX10_isReduction 115 = .ok (.istore_n 1, 1) := by decide +kernel
theorem dX10_isReduction_116 : decode cX10_isReduction 116 = .ok (.iinc 2 1, 3) := by decide +kernel
theorem dX10_isReduction_119 : decode cX10_isReduction 119 = .ok (.goto (-42), 3) := by decide +kernel
theorem dX10_isReduction_122 : decode cX10_isReduction 122 = .ok (.iload_n 1, 1) := by decide +kernel
theorem dX10_isReduction_123 : decode cX10_isReduction 123 = .ok (.ireturn, 1) := by decide +kernel
theorem dX10_isMetBy_0 : decode cX10_isMetBy 0 = .ok (.aload_n 0, 1) := by decide +kernel
theorem dX10_isMetBy_1 : decode cX10_isMetBy 1 = .ok (.iconst 1, 1) := by decide +kernel
theorem dX10_isMetBy_2 : decode cX10_isMetBy 2 = .ok (.iload_n 1, 1) := by decide +kernel
theorem dX10_isMetBy_3 : decode cX10_isMetBy 3 = .ok (.invokevirtual 295, 3) := by decide +kernel
theorem dX10_isMetBy_6 : decode cX10_isMetBy 6 = .ok (.aload_n 0, 1) := by decide +kernel
theorem dX10_isMetBy_7 : decode cX10_isMetBy 7 = .ok (.iconst 0, 1) := by decide +kernel
theorem dX10_isMetBy_8 : decode cX10_isMetBy 8 = .ok (.invokevirtual 289, 3) := by decide +kernel
theorem dX10_isMetBy_11 : decode cX10_isMetBy 11 = .ok (.aload_n 0, 1) := by decide +kernel
theorem dX10_isMetBy_12 : decode cX10_isMetBy 12 = .ok (.invokevirtual 292, 3) := by decide +kernel
theorem dX10_isMetBy_15 : decode cX10_isMetBy 15 = .ok (.iconst 0, 1) := by decide +kernel
theorem dX10_isMetBy_16 : decode cX10_isMetBy 16 = .ok (.istore_n 2, 1) := by decide +kernel
theorem dX10_isMetBy_17 : decode cX10_isMetBy 17 = .ok (.iload_n 2, 1) := by decide +kernel
theorem dX10_isMetBy_18 : decode cX10_isMetBy 18 = .ok (.bipush 72, 2) := by decide +kernel
theorem dX10_isMetBy_20 : decode cX10_isMetBy 20 = .ok (.if_icmp .ge 21, 3) := by decide +kernel
theorem dX10_isMetBy_23 : decode cX10_isMetBy 23 = .ok (.aload_n 0, 1) := by decide +kernel
theorem dX10_isMetBy_24 : decode cX10_isMetBy 24 = .ok (.getfield 60, 3) := by decide +kernel
theorem dX10_isMetBy_27 : decode cX10_isMetBy 27 = .ok (.iload_n 2, 1) := by decide +kernel
theorem dX10_isMetBy_28 : decode cX10_isMetBy 28 = .ok (.aload_n 0, 1) := by decide +kernel
theorem dX10_isMetBy_29 : decode cX10_isMetBy 29 = .ok (.getfield 54, 3) := by decide +kernel
theorem dX10_isMetBy_32 : decode cX10_isMetBy 32 = .ok (.iload_n 2, 1) := by decide +kernel
theorem dX10_isMetBy_33 : decode cX10_isMetBy 33 = .ok (.iaload, 1) := by decide +kernel
theorem dX10_isMetBy_34 : decode cX10_isMetBy 34 = .ok (.iastore, 1) := by decide +kernel
theorem dX10_isMetBy_35 : decode cX10_isMetBy 35 = .ok (.iinc 2 1, 3) := by decide +kernel
theorem dX10_isMetBy_38 : decode cX10_isMetBy 38 = .ok (.goto (-21), 3) := by decide +kernel
theorem dX10_isMetBy_41 : decode cX10_isMetBy 41 = .ok (.aload_n 0, 1) := by decide +kernel
theorem dX10_isMetBy_42 : decode cX10_isMetBy 42 = .ok (.iconst 1, 1) := by decide +kernel
theorem dX10_isMetBy_43 : decode cX10_isMetBy 43 = .ok (.iload_n 1, 1) := by decide +kernel
theorem dX10_isMetBy_44 : decode cX10_isMetBy 44 = .ok (.iconst 1, 1) := by decide +kernel
theorem dX10_isMetBy_45 : decode cX10_isMetBy 45 = .ok (.iadd, 1) := by decide +kernel
theorem dX10_isMetBy_46 : decode cX10_isMetBy 46 = .ok (.invokevirtual 295, 3) := by decide +kernel
theorem dX10_isMetBy_49 : decode cX10_isMetBy 49 = .ok (.aload_n 0, 1) := by decide +kernel
theorem dX10_isMetBy_50 : decode cX10_isMetBy 50 = .ok (.invokevirtual 292, 3) := by decide +kernel
theorem dX10_isMetBy_53 : decode cX10_isMetBy 53 = .ok (.iconst 1, 1) := by decide +kernel
theorem dX10_isMetBy_54 : decode cX10_isMetBy 54 = .ok (.istore_n 2, 1) := by decide +kernel
theorem dX10_isMetBy_55 : decode cX10_isMetBy 55 = .ok (.iconst 0, 1) := by decide +kernel
theorem dX10_isMetBy_56 : decode cX10_isMetBy 56 = .ok (.istore_n 3, 1) := by decide +kernel
theorem dX10_isMetBy_57 : decode cX10_isMetBy 57 = .ok (.iload_n 3, 1) := by decide +kernel
theorem dX10_isMetBy_58 : decode cX10_isMetBy 58 = .ok (.bipush 72, 2) := by decide +kernel
theorem dX10_isMetBy_60 : decode cX10_isMetBy 60 = .ok (.if_icmp .ge 34, 3) := by decide +kernel
theorem dX10_isMetBy_63 : decode cX10_isMetBy 63 = .ok (.iload_n 2, 1) := by decide +kernel
theorem dX10_isMetBy_64 : decode cX10_isMetBy 64 = .ok (.ifCond .eq 22, 3) := by decide +kernel
theorem dX10_isMetBy_67 : decode cX10_isMetBy 67 = .ok (.aload_n 0, 1) := by decide +kernel
theorem dX10_isMetBy_68 : decode cX10_isMetBy 68 = .ok (.getfield 60, 3) := by decide +kernel
theorem dX10_isMetBy_71 : decode cX10_isMetBy 71 = .ok (.iload_n 3, 1) := by decide +kernel
theorem dX10_isMetBy_72 : decode cX10_isMetBy 72 = .ok (.iaload, 1) := by decide +kernel
theorem dX10_isMetBy_73 : decode cX10_isMetBy 73 = .ok (.aload_n 0, 1) := by decide +kernel
theorem dX10_isMetBy_74 : decode cX10_isMetBy 74 = .ok (.getfield 54, 3) := by decide +kernel
theorem dX10_isMetBy_77 : decode cX10_isMetBy 77 = .ok (.iload_n 3, 1) := by decide +kernel
theorem dX10_isMetBy_78 : decode cX10_isMetBy 78 = .ok (.iaload, 1) := by decide +kernel
theorem dX10_isMetBy_79 : decode cX10_isMetBy 79 = .ok (.if_icmp .ne 7, 3) := by decide +kernel
theorem dX10_isMetBy_82 : decode cX10_isMetBy 82 = .ok (.iconst 1, 1) := by decide +kernel
theorem dX10_isMetBy_83 : decode cX10_isMetBy 83 = .ok (.goto 4, 3) := by decide +kernel
theorem dX10_isMetBy_86 : decode cX10_isMetBy 86 = .ok (.iconst 0, 1) := by decide +kernel
theorem dX10_isMetBy_87 : decode cX10_isMetBy 87 = .ok (.istore_n 2, 1) := by decide +kernel
theorem dX10_isMetBy_88 : decode cX10_isMetBy 88 = .ok (.iinc 3 1, 3) := by decide +kernel
theorem dX10_isMetBy_91 : decode cX10_isMetBy 91 = .ok (.goto (-34), 3) := by decide +kernel
theorem dX10_isMetBy_94 : decode cX10_isMetBy 94 = .ok (.iload_n 2, 1) := by decide +kernel
theorem dX10_isMetBy_95 : decode cX10_isMetBy 95 = .ok (.ireturn, 1) := by decide +kernel
theorem dX10_reduces_0 : decode cX10_reduces 0 = .ok (.iload_n 1, 1) := by decide +kernel
theorem dX10_reduces_1 : decode cX10_reduces 1 = .ok (.i2l, 1) := by decide +kernel
theorem dX10_reduces_2 : decode cX10_reduces 2 = .ok (.lconst 0, 1) := by decide +kernel
theorem dX10_reduces_3 : decode cX10_reduces 3 = .ok (.lconst 1, 1) := by decide +kernel
theorem dX10_reduces_4 : decode cX10_reduces 4 = .ok (.invokestatic 115, 3) := by decide +kernel
theorem dX10_reduces_7 : decode cX10_reduces 7 = .ok (.ifCond .ne 5, 3) := by decide +kernel
theorem dX10_reduces_10 : decode cX10_reduces 10 = .ok (.iconst (-1), 1) := by decide +kernel
theorem dX10_reduces_11 : decode cX10_reduces 11 = .ok (.ireturn, 1) := by decide +kernel
theorem dX10_reduces_12 : decode cX10_reduces 12 = .ok (.iload_n 1, 1) := by decide +kernel
theorem dX10_reduces_13 : decode cX10_reduces 13 = .ok (.ifCond .ne 16, 3) := by decide +kernel
theorem dX10_reduces_16 : decode cX10_reduces 16 = .ok (.aload_n 0, 1) := by decide +kernel
theorem dX10_reduces_17 : decode cX10_reduces 17 = .ok (.invokevirtual 313, 3) := by decide +kernel
theorem dX10_reduces_20 : decode cX10_reduces 20 = .ok (.ifCond .eq 7, 3) := by decide +kernel
theorem dX10_reduces_23 : decode cX10_reduces 23 = .ok (.iconst 1, 1) := by decide +kernel
theorem dX10_reduces_24 : decode cX10_reduces 24 = .ok (.goto 4, 3) := by decide +kernel
theorem dX10_reduces_27 : decode cX10_reduces 27 = .ok (.iconst 0, 1) := by decide +kernel
theorem dX10_reduces_28 : decode cX10_reduces 28 = .ok (.ireturn, 1) := by decide +kernel
theorem dX10_reduces_29 : decode cX10_reduces 29 = .ok (.iconst 0, 1) := by decide +kernel
theorem dX10_reduces_30 : decode cX10_reduces 30 = .ok (.istore_n 2, 1) := by decide +kernel
theorem dX10_reduces_31 : decode cX10_reduces 31 = .ok (.iload_n 2, 1) := by decide +kernel
theorem dX10_reduces_32 : decode cX10_reduces 32 = .ok (.bipush 6, 2) := by decide +kernel
theorem dX10_reduces_34 : decode cX10_reduces 34 = .ok (.if_icmp .ge 19, 3) := by decide +kernel
theorem dX10_reduces_37 : decode cX10_reduces 37 = .ok (.aload_n 0, 1) := by decide +kernel
theorem dX10_reduces_38 : decode cX10_reduces 38 = .ok (.iload_n 2, 1) := by decide +kernel
theorem dX10_reduces_39 : decode cX10_reduces 39 = .ok (.invokevirtual 317, 3) := by decide +kernel
theorem dX10_reduces_42 : decode cX10_reduces 42 = .ok (.ifCond .eq 5, 3) := by decide +kernel
theorem dX10_reduces_45 : decode cX10_reduces 45 = .ok (.iload_n 2, 1) := by decide +kernel
theorem dX10_reduces_46 : decode cX10_reduces 46 = .ok (.ireturn, 1) := by decide +kernel
theorem dX10_reduces_47 : decode cX10_reduces 47 = .ok (.iinc 2 1, 3) := by decide +kernel
theorem dX10_reduces_50 : decode cX10_reduces 50 = .ok (.goto (-19), 3) := by decide +kernel
theorem dX10_reduces_53 : decode cX10_reduces 53 = .ok (.bipush (-5), 2) := by decide +kernel
theorem dX10_reduces_55 : decode cX10_reduces 55 = .ok (.ireturn, 1) := by decide +kernel
theorem dX10_see_0 : decode cX10_see 0 = .ok (.iload_n 1, 1) := by decide +kernel
theorem dX10_see_1 : decode cX10_see 1 = .ok (.iconst (-1), 1) := by decide +kernel
theorem dX10_see_2 : decode cX10_see 2 = .ok (.if_icmp .ne 10, 3) := by decide +kernel
theorem dX10_see_5 : decode cX10_see 5 = .ok (.aload_n 0, 1) := by decide +kernel
theorem dX10_see_6 : decode cX10_see 6 = .ok (.iconst 0, 1) := by decide +kernel
theorem dX10_see_7 : decode cX10_see 7 = .ok (.putfield 320, 3) := by decide +kernel
theorem dX10_see_10 : decode cX10_see 10 = .ok (.iconst 0, 1) := by decide +kernel
theorem dX10_see_11 : decode cX10_see 11 = .ok (.ireturn, 1) := by decide +kernel
theorem dX10_see_12 : decode cX10_see 12 = .ok (.iload_n 1, 1) := by decide +kernel
theorem dX10_see_13 : decode cX10_see 13 = .ok (.i2l, 1) := by decide +kernel
theorem dX10_see_14 : decode cX10_see 14 = .ok (.lconst 0, 1) := by decide +kernel
theorem dX10_see_15 : decode cX10_see 15 = .ok (.ldc2_w 263, 3) := by decide +kernel
theorem dX10_see_18 : decode cX10_see 18 = .ok (.invokestatic 115, 3) := by decide +kernel
theorem dX10_see_21 : decode cX10_see 21 = .ok (.ifCond .ne 5, 3) := by decide +kernel
theorem dX10_see_24 : decode cX10_see 24 = .ok (.iconst (-1), 1) := by decide +kernel
theorem dX10_see_25 : decode cX10_see 25 = .ok (.ireturn, 1) := by decide +kernel
theorem dX10_see_26 : decode cX10_see 26 = .ok (.iload_n 2, 1) := by decide +kernel
theorem dX10_see_27 : decode cX10_see 27 = .ok (.iload_n 3, 1) := by decide +kernel
theorem dX10_see_28 : decode cX10_see 28 = .ok (.invokestatic 265, 3) := by decide +kernel
theorem dX10_see_31 : decode cX10_see 31 = .ok (.ifCond .ne 6, 3) := by decide +kernel
theorem dX10_see_34 : decode cX10_see 34 = .ok (.bipush (-2), 2) := by decide +kernel
theorem dX10_see_36 : decode cX10_see 36 = .ok (.ireturn, 1) := by decide +kernel
theorem dX10_see_37 : decode cX10_see 37 = .ok (.aload_n 0, 1) := by decide +kernel
theorem dX10_see_38 : decode cX10_see 38 = .ok (.getfield 320, 3) := by decide +kernel
theorem dX10_see_41 : decode cX10_see 41 = .ok (.iconst 4, 1) := by decide +kernel
theorem dX10_see_42 : decode cX10_see 42 = .ok (.if_icmp .ne 6, 3) := by decide +kernel
theorem dX10_see_45 : decode cX10_see 45 = .ok (.bipush (-4), 2) := by decide +kernel
theorem dX10_see_47 : decode cX10_see 47 = .ok (.ireturn, 1) := by decide +kernel
theorem dX10_see_48 : decode cX10_see 48 = .ok (.aload_n 0, 1) := by decide +kernel
theorem dX10_see_49 : decode cX10_see 49 = .ok (.getfield 63, 3) := by decide +kernel
theorem dX10_see_52 : decode cX10_see 52 = .ok (.aload_n 0, 1) := by decide +kernel
theorem dX10_see_53 : decode cX10_see 53 = .ok (.getfield 320, 3) := by decide +kernel
theorem dX10_see_56 : decode cX10_see 56 = .ok (.iload_n 1, 1) := by decide +kernel
theorem dX10_see_57 : decode cX10_see 57 = .ok (.iastore, 1) := by decide +kernel
theorem dX10_see_58 : decode cX10_see 58 = .ok (.aload_n 0, 1) := by decide +kernel
theorem dX10_see_59 : decode cX10_see 59 = .ok (.getfield 66, 3) := by decide +kernel
theorem dX10_see_62 : decode cX10_see 62 = .ok (.aload_n 0, 1) := by decide +kernel
theorem dX10_see_63 : decode cX10_see 63 = .ok (.getfield 320, 3) := by decide +kernel
theorem dX10_see_66 : decode cX10_see 66 = .ok (.iload_n 2, 1) := by decide +kernel
theorem dX10_see_67 : decode cX10_see 67 = .ok (.iastore, 1) := by decide +kernel
theorem dX10_see_68 : decode cX10_see 68 = .ok (.aload_n 0, 1) := by decide +kernel
theorem dX10_see_69 : decode cX10_see 69 = .ok (.getfield 69, 3) := by decide +kernel
theorem dX10_see_72 : decode cX10_see 72 = .ok (.aload_n 0, 1) := by decide +kernel
theorem dX10_see_73 : decode cX10_see 73 = .ok (.getfield 320, 3) := by decide +kernel
theorem dX10_see_76 : decode cX10_see 76 = .ok (.iload_n 3, 1) := by decide +kernel
theorem dX10_see_77 : decode cX10_see 77 = .ok (.iastore, 1) := by decide +kernel
theorem dX10_see_78 : decode cX10_see 78 = .ok (.aload_n 0, 1) := by decide +kernel
theorem dX10_see_79 : decode cX10_see 79 = .ok (.dup, 1) := by decide +kernel
theorem dX10_see_80 : decode cX10_see 80 = .ok (.getfield 320, 3) := by decide +kernel
theorem dX10_see_83 : decode cX10_see 83 = .ok (.iconst 1, 1) := by decide +kernel
theorem dX10_see_84 : decode cX10_see 84 = .ok (.iadd, 1) := by decide +kernel
theorem dX10_see_85 : decode cX10_see 85 = .ok (.putfield 320, 3) := by decide +kernel
theorem dX10_see_88 : decode cX10_see 88 = .ok (.aload_n 0, 1) := by decide +kernel
theorem dX10_see_89 : decode cX10_see 89 = .ok (.getfield 320, 3) := by decide +kernel
theorem dX10_see_92 : decode cX10_see 92 = .ok (.ireturn, 1) := by decide +kernel
theorem dX10_isSeen_0 : decode cX10_isSeen 0 = .ok (.aload_n 0, 1) := by decide +kernel
theorem dX10_isSeen_1 : decode cX10_isSeen 1 = .ok (.getfield 320, 3) := by decide +kernel
theorem dX10_isSeen_4 : decode cX10_isSeen 4 = .ok (.ifCond .ne 5, 3) := by decide +kernel
theorem dX10_isSeen_7 : decode cX10_isSeen 7 = .ok (.iconst 1, 1) := by decide +kernel
theorem dX10_isSeen_8 : decode cX10_isSeen 8 = .ok (.ireturn, 1) := by decide +kernel
theorem dX10_isSeen_9 : decode cX10_isSeen 9 = .ok (.aload_n 0, 1) := by decide +kernel
theorem dX10_isSeen_10 : decode cX10_isSeen 10 = .ok (.getfield 11, 3) := by decide +kernel
theorem dX10_isSeen_13 : decode cX10_isSeen 13 = .ok (.iconst 0, 1) := by decide +kernel
theorem dX10_isSeen_14 : decode cX10_isSeen 14 = .ok (.iaload, 1) := by decide +kernel
theorem dX10_isSeen_15 : decode cX10_isSeen 15 = .ok (.ifCond .ne 5, 3) := by decide +kernel
theorem dX10_isSeen_18 : decode cX10_isSeen 18 = .ok (.iconst 0, 1) := by decide +kernel
theorem dX10_isSeen_19 : decode cX10_isSeen 19 = .ok (.ireturn, 1) := by decide +kernel
theorem dX10_isSeen_20 : decode cX10_isSeen 20 = .ok (.aload_n 0, 1) := by decide +kernel
theorem dX10_isSeen_21 : decode cX10_isSeen 21 = .ok (.iconst 0, 1) := by decide +kernel
theorem dX10_isSeen_22 : decode cX10_isSeen 22 = .ok (.invokevirtual 166, 3) := by decide +kernel
theorem dX10_isSeen_25 : decode cX10_isSeen 25 = .ok (.aload_n 0, 1) := by decide +kernel
theorem dX10_isSeen_26 : decode cX10_isSeen 26 = .ok (.invokevirtual 254, 3) := by decide +kernel
theorem dX10_isSeen_29 : decode cX10_isSeen 29 = .ok (.iconst 1, 1) := by decide +kernel
theorem dX10_isSeen_30 : decode cX10_isSeen 30 = .ok (.istore_n 1, 1) := by decide +kernel
theorem dX10_isSeen_31 : decode cX10_isSeen 31 = .ok (.iconst 0, 1) := by decide +kernel
theorem dX10_isSeen_32 : decode cX10_isSeen 32 = .ok (.istore_n 2, 1) := by decide +kernel
theorem dX10_isSeen_33 : decode cX10_isSeen 33 = .ok (.iload_n 2, 1) := by decide +kernel
theorem dX10_isSeen_34 : decode cX10_isSeen 34 = .ok (.aload_n 0, 1) := by decide +kernel
theorem dX10_isSeen_35 : decode cX10_isSeen 35 = .ok (.getfield 320, 3) := by decide +kernel
theorem dX10_isSeen_38 : decode cX10_isSeen 38 = .ok (.if_icmp .ge 71, 3) := by decide +kernel
theorem dX10_isSeen_41 : decode cX10_isSeen 41 = .ok (.iload_n 1, 1) := by decide +kernel
theorem dX10_isSeen_42 : decode cX10_isSeen 42 = .ok (.ifCond .eq 59, 3) := by decide +kernel
theorem dX10_isSeen_45 : decode cX10_isSeen 45 = .ok (.aload_n 0, 1) := by decide +kernel
theorem dX10_isSeen_46 : decode cX10_isSeen 46 = .ok (.getfield 63, 3) := by decide +kernel
theorem dX10_isSeen_49 : decode cX10_isSeen 49 = .ok (.iload_n 2, 1) := by decide +kernel
theorem dX10_isSeen_50 : decode cX10_isSeen 50 = .ok (.iaload, 1) := by decide +kernel
theorem dX10_isSeen_51 : decode cX10_isSeen 51 = .ok (.aload_n 0, 1) := by decide +kernel
theorem dX10_isSeen_52 : decode cX10_isSeen 52 = .ok (.getfield 257, 3) := by decide +kernel
theorem dX10_isSeen_55 : decode cX10_isSeen 55 = .ok (.if_icmp .ge 46, 3) := by decide +kernel
theorem dX10_isSeen_58 : decode cX10_isSeen 58 = .ok (.aload_n 0, 1) := by decide +kernel
theorem dX10_isSeen_59 : decode cX10_isSeen 59 = .ok (.getfield 48, 3) := by decide +kernel
theorem dX10_isSeen_62 : decode cX10_isSeen 62 = .ok (.aload_n 0, 1) := by decide +kernel
theorem dX10_isSeen_63 : decode cX10_isSeen 63 = .ok (.getfield 63, 3) := by decide +kernel
theorem dX10_isSeen_66 : decode cX10_isSeen 66 = .ok (.iload_n 2, 1) := by decide +kernel
theorem dX10_isSeen_67 : decode cX10_isSeen 67 = .ok (.iaload, 1) := by decide +kernel
theorem dX10_isSeen_68 : decode cX10_isSeen 68 = .ok (.iaload, 1) := by decide +kernel
theorem dX10_isSeen_69 : decode cX10_isSeen 69 = .ok (.aload_n 0, 1) := by decide +kernel
theorem dX10_isSeen_70 : decode cX10_isSeen 70 = .ok (.getfield 69, 3) := by decide +kernel
theorem dX10_isSeen_73 : decode cX10_isSeen 73 = .ok (.iload_n 2, 1) := by decide +kernel
theorem dX10_isSeen_74 : decode cX10_isSeen 74 = .ok (.iaload, 1) := by decide +kernel
theorem dX10_isSeen_75 : decode cX10_isSeen 75 = .ok (.imul, 1) := by decide +kernel
theorem dX10_isSeen_76 : decode cX10_isSeen 76 = .ok (.aload_n 0, 1) := by decide +kernel
theorem dX10_isSeen_77 : decode cX10_isSeen 77 = .ok (.getfield 66, 3) := by decide +kernel
theorem dX10_isSeen_80 : decode cX10_isSeen 80 = .ok (.iload_n 2, 1) := by decide +kernel
theorem dX10_isSeen_81 : decode cX10_isSeen 81 = .ok (.iaload, 1) := by decide +kernel
theorem dX10_isSeen_82 : decode cX10_isSeen 82 = .ok (.aload_n 0, 1) := by decide +kernel
theorem dX10_isSeen_83 : decode cX10_isSeen 83 = .ok (.getfield 51, 3) := by decide +kernel
theorem dX10_isSeen_86 : decode cX10_isSeen 86 = .ok (.aload_n 0, 1) := by decide +kernel
theorem dX10_isSeen_87 : decode cX10_isSeen 87 = .ok (.getfield 63, 3) := by decide +kernel
theorem dX10_isSeen_90 : decode cX10_isSeen 90 = .ok (.iload_n 2, 1) := by decide +kernel
theorem dX10_isSeen_91 : decode cX10_isSeen 91 = .ok (.iaload, 1) := by decide +kernel
theorem dX10_isSeen_92 : decode cX10_isSeen 92 = .ok (.iaload, 1) := by decide +kernel
theorem dX10_isSeen_93 : decode cX10_isSeen 93 = .ok (.imul, 1) := by decide +kernel
theorem dX10_isSeen_94 : decode cX10_isSeen 94 = .ok (.if_icmp .ne 7, 3) := by decide +kernel
theorem dX10_isSeen_97 : decode cX10_isSeen 97 = .ok (.iconst 1, 1) := by decide +kernel
theorem dX10_isSeen_98 : decode cX10_isSeen 98 = .ok (.goto 4, 3) := by decide +kernel
theorem dX10_isSeen_101 : decode cX10_isSeen 101 = .ok (.iconst 0, 1) := by decide +kernel
theorem dX10_isSeen_102 : decode cX10_isSeen 102 = .ok (.istore_n 1, 1) := by decide +kernel
theorem dX10_isSeen_103 : decode cX10_isSeen 103 = .ok (.iinc 2 1, 3) := by decide +kernel
theorem dX10_isSeen_106 : decode cX10_isSeen 106 = .ok (.goto (-73), 3) := by decide +kernel
theorem dX10_isSeen_109 : decode cX10_isSeen 109 = .ok (.iload_n 1, 1) := by decide +kernel
theorem dX10_isSeen_110 : decode cX10_isSeen 110 = .ok (.ireturn, 1) := by decide +kernel
theorem dX10_fits_0 : decode cX10_fits 0 = .ok (.aload_n 0, 1) := by decide +kernel
theorem dX10_fits_1 : decode cX10_fits 1 = .ok (.iload_n 1, 1) := by decide +kernel
theorem dX10_fits_2 : decode cX10_fits 2 = .ok (.iload_n 2, 1) := by decide +kernel
theorem dX10_fits_3 : decode cX10_fits 3 = .ok (.invokevirtual 155, 3) := by decide +kernel
theorem dX10_fits_6 : decode cX10_fits 6 = .ok (.ifCond .eq 24, 3) := by decide +kernel
theorem dX10_fits_9 : decode cX10_fits 9 = .ok (.iload_n 3, 1) := by decide +kernel
theorem dX10_fits_10 : decode cX10_fits 10 = .ok (.i2l, 1) := by decide +kernel
theorem dX10_fits_11 : decode cX10_fits 11 = .ok (.lconst 0, 1) := by decide +kernel
theorem dX10_fits_12 : decode cX10_fits 12 = .ok (.lconst 1, 1) := by decide +kernel
theorem dX10_fits_13 : decode cX10_fits 13 = .ok (.invokestatic 115, 3) := by decide +kernel
theorem dX10_fits_16 : decode cX10_fits 16 = .ok (.ifCond .eq 14, 3) := by decide +kernel
theorem dX10_fits_19 : decode cX10_fits 19 = .ok (.iload 4, 2) := by decide +kernel
theorem dX10_fits_21 : decode cX10_fits 21 = .ok (.i2l, 1) := by decide +kernel
theorem dX10_fits_22 : decode cX10_fits 22 = .ok (.lconst 0, 1) := by decide +kernel
theorem dX10_fits_23 : decode cX10_fits 23 = .ok (.lconst 1, 1) := by decide +kernel
theorem dX10_fits_24 : decode cX10_fits 24 = .ok (.invokestatic 115, 3) := by decide +kernel
theorem dX10_fits_27 : decode cX10_fits 27 = .ok (.ifCond .ne 5, 3) := by decide +kernel
theorem dX10_fits_30 : decode cX10_fits 30 = .ok (.iconst (-1), 1) := by decide +kernel
theorem dX10_fits_31 : decode cX10_fits 31 = .ok (.ireturn, 1) := by decide +kernel
theorem dX10_fits_32 : decode cX10_fits 32 = .ok (.aload_n 0, 1) := by decide +kernel
theorem dX10_fits_33 : decode cX10_fits 33 = .ok (.iload_n 1, 1) := by decide +kernel
theorem dX10_fits_34 : decode cX10_fits 34 = .ok (.iload_n 2, 1) := by decide +kernel
theorem dX10_fits_35 : decode cX10_fits 35 = .ok (.invokevirtual 125, 3) := by decide +kernel
theorem dX10_fits_38 : decode cX10_fits 38 = .ok (.istore 5, 2) := by decide +kernel
theorem dX10_fits_40 : decode cX10_fits 40 = .ok (.aload_n 0, 1) := by decide +kernel
theorem dX10_fits_41 : decode cX10_fits 41 = .ok (.iload_n 1, 1) := by decide +kernel
theorem dX10_fits_42 : decode cX10_fits 42 = .ok (.iload_n 2, 1) := by decide +kernel
theorem dX10_fits_43 : decode cX10_fits 43 = .ok (.invokevirtual 129, 3) := by decide +kernel
theorem dX10_fits_46 : decode cX10_fits 46 = .ok (.istore 6, 2) := by decide +kernel
theorem dX10_fits_48 : decode cX10_fits 48 = .ok (.iconst 0, 1) := by decide +kernel
theorem dX10_fits_49 : decode cX10_fits 49 = .ok (.istore 7, 2) := by decide +kernel
theorem dX10_fits_51 : decode cX10_fits 51 = .ok (.bipush (-5), 2) := by decide +kernel
theorem dX10_fits_53 : decode cX10_fits 53 = .ok (.istore 8, 2) := by decide +kernel
theorem dX10_fits_55 : decode cX10_fits 55 = .ok (.iconst 0, 1) := by decide +kernel
theorem dX10_fits_56 : decode cX10_fits 56 = .ok (.istore 9, 2) := by decide +kernel
theorem dX10_fits_58 : decode cX10_fits 58 = .ok (.iload 9, 2) := by decide +kernel
theorem dX10_fits_60 : decode cX10_fits 60 = .ok (.bipush 10, 2) := by decide +kernel
theorem dX10_fits_62 : decode cX10_fits 62 = .ok (.if_icmp .ge 151, 3) := by decide +kernel
theorem dX10_fits_65 : decode cX10_fits 65 = .ok (.iload_n 3, 1) := by decide +kernel
theorem dX10_fits_66 : decode cX10_fits 66 = .ok (.ifCond .ne 8, 3) := by decide +kernel
theorem dX10_fits_69 : decode cX10_fits 69 = .ok (.iload 9, 2) := by decide +kernel
theorem dX10_fits_71 : decode cX10_fits 71 = .ok (.goto 5, 3) := by decide +kernel
theorem dX10_fits_74 : decode cX10_fits 74 = .ok (.iload 5, 2) := by decide +kernel
theorem dX10_fits_76 : decode cX10_fits 76 = .ok (.istore 10, 2) := by decide +kernel
theorem dX10_fits_78 : decode cX10_fits 78 = .ok (.iload_n 3, 1) := by decide +kernel
theorem dX10_fits_79 : decode cX10_fits 79 = .ok (.iconst 1, 1) := by decide +kernel
theorem dX10_fits_80 : decode cX10_fits 80 = .ok (.if_icmp .ne 8, 3) := by decide +kernel
theorem dX10_fits_83 : decode cX10_fits 83 = .ok (.iload 9, 2) := by decide +kernel
theorem dX10_fits_85 : decode cX10_fits 85 = .ok (.goto 5, 3) := by decide +kernel
theorem dX10_fits_88 : decode cX10_fits 88 = .ok (.iload 6, 2) := by decide +kernel
theorem dX10_fits_90 : decode cX10_fits 90 = .ok (.istore 11, 2) := by decide +kernel
theorem dX10_fits_92 : decode cX10_fits 92 = .ok (.iload 10, 2) := by decide +kernel
theorem dX10_fits_94 : decode cX10_fits 94 = .ok (.iload 5, 2) := by decide +kernel
theorem dX10_fits_96 : decode cX10_fits 96 = .ok (.if_icmp .ne 10, 3) := by decide +kernel
theorem dX10_fits_99 : decode cX10_fits 99 = .ok (.iload 11, 2) := by decide +kernel
theorem dX10_fits_101 : decode cX10_fits 101 = .ok (.iload 6, 2) := by decide +kernel
theorem dX10_fits_103 : decode cX10_fits 103 = .ok (.if_icmp .eq 16, 3) := by decide +kernel
theorem dX10_fits_106 : decode cX10_fits 106 = .ok (.aload_n 0, 1) := by decide +kernel
theorem dX10_fits_107 : decode cX10_fits 107 = .ok (.iload_n 1, 1) := by decide +kernel
theorem dX10_fits_108 : decode cX10_fits 108 = .ok (.iload 10, 2) := by decide +kernel
theorem dX10_fits_110 : decode cX10_fits 110 = .ok (.iload 11, 2) := by decide +kernel
theorem dX10_fits_112 : decode cX10_fits 112 = .ok (.invokevirtual 143, 3) := by decide +kernel
theorem dX10_fits_115 : decode cX10_fits 115 = .ok (.iconst (-1), 1) := by decide +kernel
theorem dX10_fits_116 : decode cX10_fits 116 = .ok (.if_icmp .ne 7, 3) := by decide +kernel
theorem dX10_fits_119 : decode cX10_fits 119 = .ok (.iconst 1, 1) := by decide +kernel
theorem dX10_fits_120 : decode cX10_fits 120 = .ok (.goto 4, 3) := by decide +kernel
theorem dX10_fits_123 : decode cX10_fits 123 = .ok (.iconst 0, 1) := by decide +kernel
theorem dX10_fits_124 : decode cX10_fits 124 = .ok (.istore 12, 2) := by decide +kernel
theorem dX10_fits_126 : decode cX10_fits 126 = .ok (.aload_n 0, 1) := by decide +kernel
theorem dX10_fits_127 : decode cX10_fits 127 = .ok (.getfield 15, 3) := by decide +kernel
theorem dX10_fits_130 : decode cX10_fits 130 = .ok (.bipush 6, 2) := by decide +kernel
theorem dX10_fits_132 : decode cX10_fits 132 = .ok (.iload_n 1, 1) := by decide +kernel
theorem dX10_fits_133 : decode cX10_fits 133 = .ok (.imul, 1) := by decide +kernel
theorem dX10_fits_134 : decode cX10_fits 134 = .ok (.iload_n 2, 1) := by decide +kernel
theorem dX10_fits_135 : decode cX10_fits 135 = .ok (.iadd, 1) := by decide +kernel
theorem dX10_fits_136 : decode cX10_fits 136 = .ok (.iload 10, 2) := by decide +kernel
theorem dX10_fits_138 : decode cX10_fits 138 = .ok (.iastore, 1) := by decide +kernel
theorem dX10_fits_139 : decode cX10_fits 139 = .ok (.aload_n 0, 1) := by decide +kernel
theorem dX10_fits_140 : decode cX10_fits 140 = .ok (.getfield 18, 3) := by decide +kernel
theorem dX10_fits_143 : decode cX10_fits 143 = .ok (.bipush 6, 2) := by decide +kernel
theorem dX10_fits_145 : decode cX10_fits 145 = .ok (.iload_n 1, 1) := by decide +kernel
theorem dX10_fits_146 : decode cX10_fits 146 = .ok (.imul, 1) := by decide +kernel
theorem dX10_fits_147 : decode cX10_fits 147 = .ok (.iload_n 2, 1) := by decide +kernel
theorem dX10_fits_148 : decode cX10_fits 148 = .ok (.iadd, 1) := by decide +kernel
theorem dX10_fits_149 : decode cX10_fits 149 = .ok (.iload 11, 2) := by decide +kernel
theorem dX10_fits_151 : decode cX10_fits 151 = .ok (.iastore, 1) := by decide +kernel
theorem dX10_fits_152 : decode cX10_fits 152 = .ok (.iload 12, 2) := by decide +kernel
theorem dX10_fits_154 : decode cX10_fits 154 = .ok (.ifCond .eq 27, 3) := by decide +kernel
theorem dX10_fits_157 : decode cX10_fits 157 = .ok (.aload_n 0, 1) := by decide +kernel
theorem dX10_fits_158 : decode cX10_fits 158 = .ok (.invokevirtual 323, 3) := by decide +kernel
theorem dX10_fits_161 : decode cX10_fits 161 = .ok (.ifCond .eq 20, 3) := by decide +kernel
theorem dX10_fits_164 : decode cX10_fits 164 = .ok (.iload 7, 2) := by decide +kernel
theorem dX10_fits_166 : decode cX10_fits 166 = .ok (.ifCond .ne 8, 3) := by decide +kernel
theorem dX10_fits_169 : decode cX10_fits 169 = .ok (.iload 9, 2) := by decide +kernel
theorem dX10_fits_171 : decode cX10_fits 171 = .ok (.goto 5, 3) := by decide +kernel
theorem dX10_fits_174 : decode cX10_fits 174 = .ok (.iload 8, 2) := by decide +kernel
theorem dX10_fits_176 : decode cX10_fits 176 = .ok (.istore 8, 2) := by decide +kernel
theorem dX10_fits_178 : decode cX10_fits 178 = .ok (.iinc 7 1, 3) := by decide +kernel
theorem dX10_fits_181 : decode cX10_fits 181 = .ok (.aload_n 0, 1) := by decide +kernel
theorem dX10_fits_182 : decode cX10_fits 182 = .ok (.getfield 15, 3) := by decide +kernel
theorem dX10_fits_185 : decode cX10_fits 185 = .ok (.bipush 6, 2) := by decide +kernel
theorem dX10_fits_187 : decode cX10_fits 187 = .ok (.iload_n 1, 1) := by decide +kernel
theorem dX10_fits_188 : decode cX10_fits 188 = .ok (.imul, 1) := by decide +kernel
theorem dX10_fits_189 : decode cX10_fits 189 = .ok (.iload_n 2, 1) := by decide +kernel
theorem dX10_fits_190 : decode cX10_fits 190 = .ok (.iadd, 1) := by decide +kernel
theorem dX10_fits_191 : decode cX10_fits 191 = .ok (.iload 5, 2) := by decide +kernel
theorem dX10_fits_193 : decode cX10_fits 193 = .ok (.iastore, 1) := by decide +kernel
theorem dX10_fits_194 : decode cX10_fits 194 = .ok (.aload_n 0, 1) := by decide +kernel
theorem dX10_fits_195 : decode cX10_fits 195 = .ok (.getfield 18, 3) := by decide +kernel
theorem dX10_fits_198 : decode cX10_fits 198 = .ok (.bipush 6, 2) := by decide +kernel
theorem dX10_fits_200 : decode cX10_fits 200 = .ok (.iload_n 1, 1) := by decide +kernel
theorem dX10_fits_201 : decode cX10_fits 201 = .ok (.imul, 1) := by decide +kernel
theorem dX10_fits_202 : decode cX10_fits 202 = .ok (.iload_n 2, 1) := by decide +kernel
theorem dX10_fits_203 : decode cX10_fits 203 = .ok (.iadd, 1) := by decide +kernel
theorem dX10_fits_204 : decode cX10_fits 204 = .ok (.iload 6, 2) := by decide +kernel
theorem dX10_fits_206 : decode cX10_fits 206 = .ok (.iastore, 1) := by decide +kernel
theorem dX10_fits_207 : decode cX10_fits 207 = .ok (.iinc 9 1, 3) := by decide +kernel
theorem dX10_fits_210 : decode cX10_fits 210 = .ok (.goto (-152), 3) := by decide +kernel
theorem dX10_fits_213 : decode cX10_fits 213 = .ok (.iload 4, 2) := by decide +kernel
theorem dX10_fits_215 : decode cX10_fits 215 = .ok (.ifCond .ne 8, 3) := by decide +kernel
theorem dX10_fits_218 : decode cX10_fits 218 = .ok (.iload 7, 2) := by decide +kernel
theorem dX10_fits_220 : decode cX10_fits 220 = .ok (.goto 5, 3) := by decide +kernel
theorem dX10_fits_223 : decode cX10_fits 223 = .ok (.iload 8, 2) := by decide +kernel
theorem dX10_fits_225 : decode cX10_fits 225 = .ok (.ireturn, 1) := by decide +kernel
theorem dX10_odds_0 : decode cX10_odds 0 = .ok (.iload_n 1, 1) := by decide +kernel
theorem dX10_odds_1 : decode cX10_odds 1 = .ok (.invokestatic 136, 3) := by decide +kernel
theorem dX10_odds_4 : decode cX10_odds 4 = .ok (.ifCond .eq 31, 3) := by decide +kernel
theorem dX10_odds_7 : decode cX10_odds 7 = .ok (.iload_n 2, 1) := by decide +kernel
theorem dX10_odds_8 : decode cX10_odds 8 = .ok (.iload_n 3, 1) := by decide +kernel
theorem dX10_odds_9 : decode cX10_odds 9 = .ok (.invokestatic 265, 3) := by decide +kernel
theorem dX10_odds_12 : decode cX10_odds 12 = .ok (.ifCond .eq 23, 3) := by decide +kernel
theorem dX10_odds_15 : decode cX10_odds 15 = .ok (.iload 4, 2) := by decide +kernel
theorem dX10_odds_17 : decode cX10_odds 17 = .ok (.i2l, 1) := by decide +kernel
theorem dX10_odds_18 : decode cX10_odds 18 = .ok (.lconst 0, 1) := by decide +kernel
theorem dX10_odds_19 : decode cX10_odds 19 = .ok (.lconst 1, 1) := by decide +kernel
theorem dX10_odds_20 : decode cX10_odds 20 = .ok (.invokestatic 115, 3) := by decide +kernel
theorem dX10_odds_23 : decode cX10_odds 23 = .ok (.ifCond .eq 12, 3) := by decide +kernel
theorem dX10_odds_26 : decode cX10_odds 26 = .ok (.aload_n 0, 1) := by decide +kernel
theorem dX10_odds_27 : decode cX10_odds 27 = .ok (.getfield 11, 3) := by decide +kernel
theorem dX10_odds_30 : decode cX10_odds 30 = .ok (.iload_n 1, 1) := by decide +kernel
theorem dX10_odds_31 : decode cX10_odds 31 = .ok (.iaload, 1) := by decide +kernel
theorem dX10_odds_32 : decode cX10_odds 32 = .ok (.ifCond .ne 7, 3) := by decide +kernel
theorem dX10_odds_35 : decode cX10_odds 35 = .ok (.ldc2_w 271, 3) := by decide +kernel
theorem dX10_odds_38 : decode cX10_odds 38 = .ok (.lreturn, 1) := by decide +kernel
theorem dX10_odds_39 : decode cX10_odds 39 = .ok (.bipush 100, 2) := by decide +kernel
theorem dX10_odds_41 : decode cX10_odds 41 = .ok (.aload_n 0, 1) := by decide +kernel
theorem dX10_odds_42 : decode cX10_odds 42 = .ok (.iload_n 1, 1) := by decide +kernel
theorem dX10_odds_43 : decode cX10_odds 43 = .ok (.iload_n 2, 1) := by decide +kernel
theorem dX10_odds_44 : decode cX10_odds 44 = .ok (.iload_n 3, 1) := by decide +kernel
theorem dX10_odds_45 : decode cX10_odds 45 = .ok (.invokevirtual 283, 3) := by decide +kernel
theorem dX10_odds_48 : decode cX10_odds 48 = .ok (.isub, 1) := by decide +kernel
theorem dX10_odds_49 : decode cX10_odds 49 = .ok (.i2l, 1) := by decide +kernel
theorem dX10_odds_50 : decode cX10_odds 50 = .ok (.ldc2_w 326, 3) := by decide +kernel
theorem dX10_odds_53 : decode cX10_odds 53 = .ok (.iload 4, 2) := by decide +kernel
theorem dX10_odds_55 : decode cX10_odds 55 = .ok (.invokestatic 276, 3) := by decide +kernel
theorem dX10_odds_58 : decode cX10_odds 58 = .ok (.lreturn, 1) := by decide +kernel
theorem dX10_mean_0 : decode cX10_mean 0 = .ok (.iload_n 1, 1) := by decide +kernel
theorem dX10_mean_1 : decode cX10_mean 1 = .ok (.invokestatic 136, 3) := by decide +kernel
theorem dX10_mean_4 : decode cX10_mean 4 = .ok (.ifCond .eq 22, 3) := by decide +kernel
theorem dX10_mean_7 : decode cX10_mean 7 = .ok (.iload_n 2, 1) := by decide +kernel
theorem dX10_mean_8 : decode cX10_mean 8 = .ok (.i2l, 1) := by decide +kernel
theorem dX10_mean_9 : decode cX10_mean 9 = .ok (.lconst 0, 1) := by decide +kernel
theorem dX10_mean_10 : decode cX10_mean 10 = .ok (.lconst 1, 1) := by decide +kernel
theorem dX10_mean_11 : decode cX10_mean 11 = .ok (.invokestatic 115, 3) := by decide +kernel
theorem dX10_mean_14 : decode cX10_mean 14 = .ok (.ifCond .eq 12, 3) := by decide +kernel
theorem dX10_mean_17 : decode cX10_mean 17 = .ok (.aload_n 0, 1) := by decide +kernel
theorem dX10_mean_18 : decode cX10_mean 18 = .ok (.getfield 11, 3) := by decide +kernel
theorem dX10_mean_21 : decode cX10_mean 21 = .ok (.iload_n 1, 1) := by decide +kernel
theorem dX10_mean_22 : decode cX10_mean 22 = .ok (.iaload, 1) := by decide +kernel
theorem dX10_mean_23 : decode cX10_mean 23 = .ok (.ifCond .ne 7, 3) := by decide +kernel
theorem dX10_mean_26 : decode cX10_mean 26 = .ok (.ldc2_w 271, 3) := by decide +kernel
theorem dX10_mean_29 : decode cX10_mean 29 = .ok (.lreturn, 1) := by decide +kernel
theorem dX10_mean_30 : decode cX10_mean 30 = .ok (.iconst 0, 1) := by decide +kernel
theorem dX10_mean_31 : decode cX10_mean 31 = .ok (.istore_n 3, 1) := by decide +kernel
theorem dX10_mean_32 : decode cX10_mean 32 = .ok (.iconst 0, 1) := by decide +kernel
theorem dX10_mean_33 : decode cX10_mean 33 = .ok (.istore 4, 2) := by decide +kernel
theorem dX10_mean_35 : decode cX10_mean 35 = .ok (.iload 4, 2) := by decide +kernel
theorem dX10_mean_37 : decode cX10_mean 37 = .ok (.aload_n 0, 1) := by decide +kernel
theorem dX10_mean_38 : decode cX10_mean 38 = .ok (.getfield 11, 3) := by decide +kernel
theorem dX10_mean_41 : decode cX10_mean 41 = .ok (.iload_n 1, 1) := by decide +kernel
theorem dX10_mean_42 : decode cX10_mean 42 = .ok (.iaload, 1) := by decide +kernel
theorem dX10_mean_43 : decode cX10_mean 43 = .ok (.if_icmp .ge 27, 3) := by decide +kernel
theorem dX10_mean_46 : decode cX10_mean 46 = .ok (.iload_n 3, 1) := by decide +kernel
theorem dX10_mean_47 : decode cX10_mean 47 = .ok (.aload_n 0, 1) := by decide +kernel
theorem dX10_mean_48 : decode cX10_mean 48 = .ok (.iload_n 1, 1) := by decide +kernel
theorem dX10_mean_49 : decode cX10_mean 49 = .ok (.iload 4, 2) := by decide +kernel
theorem dX10_mean_51 : decode cX10_mean 51 = .ok (.invokevirtual 125, 3) := by decide +kernel
theorem dX10_mean_54 : decode cX10_mean 54 = .ok (.aload_n 0, 1) := by decide +kernel
theorem dX10_mean_55 : decode cX10_mean 55 = .ok (.iload_n 1, 1) := by decide +kernel
theorem dX10_mean_56 : decode cX10_mean 56 = .ok (.iload 4, 2) := by decide +kernel
theorem dX10_mean_58 : decode cX10_mean 58 = .ok (.invokevirtual 129, 3) := by decide +kernel
theorem dX10_mean_61 : decode cX10_mean 61 = .ok (.iadd, 1) := by decide +kernel
theorem dX10_mean_62 : decode cX10_mean 62 = .ok (.iadd, 1) := by decide +kernel
theorem dX10_mean_63 : decode cX10_mean 63 = .ok (.istore_n 3, 1) := by decide +kernel
theorem dX10_mean_64 : decode cX10_mean 64 = .ok (.iinc 4 1, 3) := by decide +kernel
theorem dX10_mean_67 : decode cX10_mean 67 = .ok (.goto (-32), 3) := by decide +kernel
theorem dX10_mean_70 : decode cX10_mean 70 = .ok (.iload_n 3, 1) := by decide +kernel
theorem dX10_mean_71 : decode cX10_mean 71 = .ok (.i2l, 1) := by decide +kernel
theorem dX10_mean_72 : decode cX10_mean 72 = .ok (.aload_n 0, 1) := by decide +kernel
theorem dX10_mean_73 : decode cX10_mean 73 = .ok (.getfield 11, 3) := by decide +kernel
theorem dX10_mean_76 : decode cX10_mean 76 = .ok (.iload_n 1, 1) := by decide +kernel
theorem dX10_mean_77 : decode cX10_mean 77 = .ok (.iaload, 1) := by decide +kernel
theorem dX10_mean_78 : decode cX10_mean 78 = .ok (.i2l, 1) := by decide +kernel
theorem dX10_mean_79 : decode cX10_mean 79 = .ok (.iload_n 2, 1) := by decide +kernel
theorem dX10_mean_80 : decode cX10_mean 80 = .ok (.invokestatic 276, 3) := by decide +kernel
theorem dX10_mean_83 : decode cX10_mean 83 = .ok (.lreturn, 1) := by decide +kernel
theorem dX10_event_0 : decode cX10_event 0 = .ok (.iload_n 1, 1) := by decide +kernel
theorem dX10_event_1 : decode cX10_event 1 = .ok (.iconst (-1), 1) := by decide +kernel
theorem dX10_event_2 : decode cX10_event 2 = .ok (.if_icmp .ne 10, 3) := by decide +kernel
theorem dX10_event_5 : decode cX10_event 5 = .ok (.aload_n 0, 1) := by decide +kernel
theorem dX10_event_6 : decode cX10_event 6 = .ok (.iconst 0, 1) := by decide +kernel
theorem dX10_event_7 : decode cX10_event 7 = .ok (.putfield 328, 3) := by decide +kernel
theorem dX10_event_10 : decode cX10_event 10 = .ok (.iconst 0, 1) := by decide +kernel
theorem dX10_event_11 : decode cX10_event 11 = .ok (.ireturn, 1) := by decide +kernel
theorem dX10_event_12 : decode cX10_event 12 = .ok (.iload_n 1, 1) := by decide +kernel
theorem dX10_event_13 : decode cX10_event 13 = .ok (.i2l, 1) := by decide +kernel
theorem dX10_event_14 : decode cX10_event 14 = .ok (.lconst 0, 1) := by decide +kernel
theorem dX10_event_15 : decode cX10_event 15 = .ok (.ldc2_w 241, 3) := by decide +kernel
theorem dX10_event_18 : decode cX10_event 18 = .ok (.invokestatic 115, 3) := by decide +kernel
theorem dX10_event_21 : decode cX10_event 21 = .ok (.ifCond .ne 5, 3) := by decide +kernel
theorem dX10_event_24 : decode cX10_event 24 = .ok (.iconst (-1), 1) := by decide +kernel
theorem dX10_event_25 : decode cX10_event 25 = .ok (.ireturn, 1) := by decide +kernel
theorem dX10_event_26 : decode cX10_event 26 = .ok (.iload_n 1, 1) := by decide +kernel
theorem dX10_event_27 : decode cX10_event 27 = .ok (.ifCond .ne 15, 3) := by decide +kernel
theorem dX10_event_30 : decode cX10_event 30 = .ok (.iload_n 2, 1) := by decide +kernel
theorem dX10_event_31 : decode cX10_event 31 = .ok (.i2l, 1) := by decide +kernel
theorem dX10_event_32 : decode cX10_event 32 = .ok (.lconst 0, 1) := by decide +kernel
theorem dX10_event_33 : decode cX10_event 33 = .ok (.ldc2_w 263, 3) := by decide +kernel
theorem dX10_event_36 : decode cX10_event 36 = .ok (.invokestatic 115, 3) := by decide +kernel
theorem dX10_event_39 : decode cX10_event 39 = .ok (.goto 29, 3) := by decide +kernel
theorem dX10_event_42 : decode cX10_event 42 = .ok (.iload_n 1, 1) := by decide +kernel
theorem dX10_event_43 : decode cX10_event 43 = .ok (.iconst 1, 1) := by decide +kernel
theorem dX10_event_44 : decode cX10_event 44 = .ok (.if_icmp .ne 15, 3) := by decide +kernel
theorem dX10_event_47 : decode cX10_event 47 = .ok (.iload_n 2, 1) := by decide +kernel
theorem dX10_event_48 : decode cX10_event 48 = .ok (.i2l, 1) := by decide +kernel
theorem dX10_event_49 : decode cX10_event 49 = .ok (.lconst 0, 1) := by decide +kernel
theorem dX10_event_50 : decode cX10_event 50 = .ok (.ldc2_w 331, 3) := by decide +kernel
theorem dX10_event_53 : decode cX10_event 53 = .ok (.invokestatic 115, 3) := by decide +kernel
theorem dX10_event_56 : decode cX10_event 56 = .ok (.goto 12, 3) := by decide +kernel
theorem dX10_event_59 : decode cX10_event 59 = .ok (.iload_n 2, 1) := by decide +kernel
theorem dX10_event_60 : decode cX10_event 60 = .ok (.i2l, 1) := by decide +kernel
theorem dX10_event_61 : decode cX10_event 61 = .ok (.lconst 1, 1) := by decide +kernel
theorem dX10_event_62 : decode cX10_event 62 = .ok (.ldc2_w 119, 3) := by decide +kernel
theorem dX10_event_65 : decode cX10_event 65 = .ok (.invokestatic 115, 3) := by decide +kernel
theorem dX10_event_68 : decode cX10_event 68 = .ok (.istore_n 3, 1) := by decide +kernel
theorem dX10_event_69 : decode cX10_event 69 = .ok (.iload_n 3, 1) := by decide +kernel
theorem dX10_event_70 : decode cX10_event 70 = .ok (.ifCond .ne 6, 3) := by decide +kernel
theorem dX10_event_73 : decode cX10_event 73 = .ok (.bipush (-2), 2) := by decide +kernel
theorem dX10_event_75 : decode cX10_event 75 = .ok (.ireturn, 1) := by decide +kernel
theorem dX10_event_76 : decode cX10_event 76 = .ok (.aload_n 0, 1) := by decide +kernel
theorem dX10_event_77 : decode cX10_event 77 = .ok (.getfield 328, 3) := by decide +kernel
theorem dX10_event_80 : decode cX10_event 80 = .ok (.bipush 8, 2) := by decide +kernel
theorem dX10_event_82 : decode cX10_event 82 = .ok (.if_icmp .ne 6, 3) := by decide +kernel
theorem dX10_event_85 : decode cX10_event 85 = .ok (.bipush (-4), 2) := by decide +kernel
theorem dX10_event_87 : decode cX10_event 87 = .ok (.ireturn, 1) := by decide +kernel
theorem dX10_event_88 : decode cX10_event 88 = .ok (.aload_n 0, 1) := by decide +kernel
theorem dX10_event_89 : decode cX10_event 89 = .ok (.getfield 72, 3) := by decide +kernel
theorem dX10_event_92 : decode cX10_event 92 = .ok (.aload_n 0, 1) := by decide +kernel
theorem dX10_event_93 : decode cX10_event 93 = .ok (.getfield 328, 3) := by decide +kernel
theorem dX10_event_96 : decode cX10_event 96 = .ok (.iload_n 1, 1) := by decide +kernel
theorem dX10_event_97 : decode cX10_event 97 = .ok (.iastore, 1) := by decide +kernel
theorem dX10_event_98 : decode cX10_event 98 = .ok (.aload_n 0, 1) := by decide +kernel
theorem dX10_event_99 : decode cX10_event 99 = .ok (.getfield 75, 3) := by decide +kernel
theorem dX10_event_102 : decode cX10_event 102 = .ok (.aload_n 0, 1) := by decide +kernel
theorem dX10_event_103 : decode cX10_event 103 = .ok (.getfield 328, 3) := by decide +kernel
theorem dX10_event_106 : decode cX10_event 106 = .ok (.iload_n 2, 1) := by decide +kernel
theorem dX10_event_107 : decode cX10_event 107 = .ok (.iastore, 1) := by decide +kernel
theorem dX10_event_108 : decode cX10_event 108 = .ok (.aload_n 0, 1) := by decide +kernel
theorem dX10_event_109 : decode cX10_event 109 = .ok (.dup, 1) := by decide +kernel
theorem dX10_event_110 : decode cX10_event 110 = .ok (.getfield 328, 3) := by decide +kernel
theorem dX10_event_113 : decode cX10_event 113 = .ok (.iconst 1, 1) := by decide +kernel
theorem dX10_event_114 : decode cX10_event 114 = .ok (.iadd, 1) := by decide +kernel
theorem dX10_event_115 : decode cX10_event 115 = .ok (.putfield 328, 3) := by decide +kernel
theorem dX10_event_118 : decode cX10_event 118 = .ok (.aload_n 0, 1) := by decide +kernel
theorem dX10_event_119 : decode cX10_event 119 = .ok (.getfield 328, 3) := by decide +kernel
theorem dX10_event_122 : decode cX10_event 122 = .ok (.ireturn, 1) := by decide +kernel
theorem dX10_lessens_0 : decode cX10_lessens 0 = .ok (.aload_n 0, 1) := by decide +kernel
theorem dX10_lessens_1 : decode cX10_lessens 1 = .ok (.getfield 11, 3) := by decide +kernel
theorem dX10_lessens_4 : decode cX10_lessens 4 = .ok (.iconst 2, 1) := by decide +kernel
theorem dX10_lessens_5 : decode cX10_lessens 5 = .ok (.iaload, 1) := by decide +kernel
theorem dX10_lessens_6 : decode cX10_lessens 6 = .ok (.istore_n 2, 1) := by decide +kernel
theorem dX10_lessens_7 : decode cX10_lessens 7 = .ok (.aload_n 0, 1) := by decide +kernel
theorem dX10_lessens_8 : decode cX10_lessens 8 = .ok (.getfield 11, 3) := by decide +kernel
theorem dX10_lessens_11 : decode cX10_lessens 11 = .ok (.iconst 2, 1) := by decide +kernel
theorem dX10_lessens_12 : decode cX10_lessens 12 = .ok (.iconst 0, 1) := by decide +kernel
theorem dX10_lessens_13 : decode cX10_lessens 13 = .ok (.iastore, 1) := by decide +kernel
theorem dX10_lessens_14 : decode cX10_lessens 14 = .ok (.iconst 0, 1) := by decide +kernel
theorem dX10_lessens_15 : decode cX10_lessens 15 = .ok (.istore_n 3, 1) := by decide +kernel
theorem dX10_lessens_16 : decode cX10_lessens 16 = .ok (.iload_n 3, 1) := by decide +kernel
theorem dX10_lessens_17 : decode cX10_lessens 17 = .ok (.iload_n 2, 1) := by decide +kernel
theorem dX10_lessens_18 : decode cX10_lessens 18 = .ok (.if_icmp .ge 59, 3) := by decide +kernel
theorem dX10_lessens_21 : decode cX10_lessens 21 = .ok (.iconst 0, 1) := by decide +kernel
theorem dX10_lessens_22 : decode cX10_lessens 22 = .ok (.aload_n 0, 1) := by decide +kernel
theorem dX10_lessens_23 : decode cX10_lessens 23 = .ok (.iconst 2, 1) := by decide +kernel
theorem dX10_lessens_24 : decode cX10_lessens 24 = .ok (.iload_n 3, 1) := by decide +kernel
theorem dX10_lessens_25 : decode cX10_lessens 25 = .ok (.invokevirtual 125, 3) := by decide +kernel
theorem dX10_lessens_28 : decode cX10_lessens 28 = .ok (.iload_n 1, 1) := by decide +kernel
theorem dX10_lessens_29 : decode cX10_lessens 29 = .ok (.isub, 1) := by decide +kernel
theorem dX10_lessens_30 : decode cX10_lessens 30 = .ok (.invokestatic 333, 3) := by decide +kernel
theorem dX10_lessens_33 : decode cX10_lessens 33 = .ok (.istore 4, 2) := by decide +kernel
theorem dX10_lessens_35 : decode cX10_lessens 35 = .ok (.iconst 0, 1) := by decide +kernel
theorem dX10_lessens_36 : decode cX10_lessens 36 = .ok (.aload_n 0, 1) := by decide +kernel
theorem dX10_lessens_37 : decode cX10_lessens 37 = .ok (.iconst 2, 1) := by decide +kernel
theorem dX10_lessens_38 : decode cX10_lessens 38 = .ok (.iload_n 3, 1) := by decide +kernel
theorem dX10_lessens_39 : decode cX10_lessens 39 = .ok (.invokevirtual 129, 3) := by decide +kernel
theorem dX10_lessens_42 : decode cX10_lessens 42 = .ok (.iload_n 1, 1) := by decide +kernel
theorem dX10_lessens_43 : decode cX10_lessens 43 = .ok (.isub, 1) := by decide +kernel
theorem dX10_lessens_44 : decode cX10_lessens 44 = .ok (.invokestatic 333, 3) := by decide +kernel
theorem dX10_lessens_47 : decode cX10_lessens 47 = .ok (.istore 5, 2) := by decide +kernel
theorem dX10_lessens_49 : decode cX10_lessens 49 = .ok (.aload_n 0, 1) := by decide +kernel
theorem dX10_lessens_50 : decode cX10_lessens 50 = .ok (.iconst 2, 1) := by decide +kernel
theorem dX10_lessens_51 : decode cX10_lessens 51 = .ok (.iload 4, 2) := by decide +kernel
theorem dX10_lessens_53 : decode cX10_lessens 53 = .ok (.iload 5, 2) := by decide +kernel
theorem dX10_lessens_55 : decode cX10_lessens 55 = .ok (.invokevirtual 143, 3) := by decide +kernel
theorem dX10_lessens_58 : decode cX10_lessens 58 = .ok (.iconst (-1), 1) := by decide +kernel
theorem dX10_lessens_59 : decode cX10_lessens 59 = .ok (.if_icmp .ne 12, 3) := by decide +kernel
theorem dX10_lessens_62 : decode cX10_lessens 62 = .ok (.aload_n 0, 1) := by decide +kernel
theorem dX10_lessens_63 : decode cX10_lessens 63 = .ok (.iconst 2, 1) := by decide +kernel
theorem dX10_lessens_64 : decode cX10_lessens 64 = .ok (.iload 4, 2) := by decide +kernel
theorem dX10_lessens_66 : decode cX10_lessens 66 = .ok (.iload 5, 2) := by decide +kernel
theorem dX10_lessens_68 : decode cX10_lessens 68 = .ok (.invokevirtual 151, 3) := by decide +kernel
theorem dX10_lessens_71 : decode cX10_lessens 71 = .ok (.iinc 3 1, 3) := by decide +kernel
theorem dX10_lessens_74 : decode cX10_lessens 74 = .ok (.goto (-58), 3) := by decide +kernel
theorem dX10_lessens_77 : decode cX10_lessens 77 = .ok (.return_, 1) := by decide +kernel
theorem dX10_happens_0 : decode cX10_happens 0 = .ok (.iload_n 1, 1) := by decide +kernel
theorem dX10_happens_1 : decode cX10_happens 1 = .ok (.iconst 2, 1) := by decide +kernel
theorem dX10_happens_2 : decode cX10_happens 2 = .ok (.if_icmp .ne 11, 3) := by decide +kernel
theorem dX10_happens_5 : decode cX10_happens 5 = .ok (.aload_n 0, 1) := by decide +kernel
theorem dX10_happens_6 : decode cX10_happens 6 = .ok (.iload_n 2, 1) := by decide +kernel
theorem dX10_happens_7 : decode cX10_happens 7 = .ok (.invokevirtual 336, 3) := by decide +kernel
theorem dX10_happens_10 : decode cX10_happens 10 = .ok (.goto 68, 3) := by decide +kernel
theorem dX10_happens_13 : decode cX10_happens 13 = .ok (.iload_n 1, 1) := by decide +kernel
theorem dX10_happens_14 : decode cX10_happens 14 = .ok (.iconst 1, 1) := by decide +kernel
theorem dX10_happens_15 : decode cX10_happens 15 = .ok (.if_icmp .ne 22, 3) := by decide +kernel
theorem dX10_happens_18 : decode cX10_happens 18 = .ok (.iload_n 2, 1) := by decide +kernel
theorem dX10_happens_19 : decode cX10_happens 19 = .ok (.aload_n 0, 1) := by decide +kernel
theorem dX10_happens_20 : decode cX10_happens 20 = .ok (.getfield 11, 3) := by decide +kernel
theorem dX10_happens_23 : decode cX10_happens 23 = .ok (.iconst 2, 1) := by decide +kernel
theorem dX10_happens_24 : decode cX10_happens 24 = .ok (.iaload, 1) := by decide +kernel
theorem dX10_happens_25 : decode cX10_happens 25 = .ok (.if_icmp .ge 53, 3) := by decide +kernel
theorem dX10_happens_28 : decode cX10_happens 28 = .ok (.aload_n 0, 1) := by decide +kernel
theorem dX10_happens_29 : decode cX10_happens 29 = .ok (.iconst 2, 1) := by decide +kernel
theorem dX10_happens_30 : decode cX10_happens 30 = .ok (.iload_n 2, 1) := by decide +kernel
theorem dX10_happens_31 : decode cX10_happens 31 = .ok (.invokevirtual 159, 3) := by decide +kernel
theorem dX10_happens_34 : decode cX10_happens 34 = .ok (.goto 44, 3) := by decide +kernel
theorem dX10_happens_37 : decode cX10_happens 37 = .ok (.aload_n 0, 1) := by decide +kernel
theorem dX10_happens_38 : decode cX10_happens 38 = .ok (.iconst 2, 1) := by decide +kernel
theorem dX10_happens_39 : decode cX10_happens 39 = .ok (.iload_n 2, 1) := by decide +kernel
theorem dX10_happens_40 : decode cX10_happens 40 = .ok (.bipush 10, 2) := by decide +kernel
theorem dX10_happens_42 : decode cX10_happens 42 = .ok (.idiv, 1) := by decide +kernel
theorem dX10_happens_43 : decode cX10_happens 43 = .ok (.iload_n 2, 1) := by decide +kernel
theorem dX10_happens_44 : decode cX10_happens 44 = .ok (.bipush 10, 2) := by decide +kernel
theorem dX10_happens_46 : decode cX10_happens 46 = .ok (.irem, 1) := by decide +kernel
theorem dX10_happens_47 : decode cX10_happens 47 = .ok (.invokevirtual 143, 3) := by decide +kernel
theorem dX10_happens_50 : decode cX10_happens 50 = .ok (.iconst (-1), 1) := by decide +kernel
theorem dX10_happens_51 : decode cX10_happens 51 = .ok (.if_icmp .ne 27, 3) := by decide +kernel
theorem dX10_happens_54 : decode cX10_happens 54 = .ok (.aload_n 0, 1) := by decide +kernel
theorem dX10_happens_55 : decode cX10_happens 55 = .ok (.getfield 11, 3) := by decide +kernel
theorem dX10_happens_58 : decode cX10_happens 58 = .ok (.iconst 2, 1) := by decide +kernel
theorem dX10_happens_59 : decode cX10_happens 59 = .ok (.iaload, 1) := by decide +kernel
theorem dX10_happens_60 : decode cX10_happens 60 = .ok (.bipush 6, 2) := by decide +kernel
theorem dX10_happens_62 : decode cX10_happens 62 = .ok (.if_icmp .ge 16, 3) := by decide +kernel
theorem dX10_happens_65 : decode cX10_happens 65 = .ok (.aload_n 0, 1) := by decide +kernel
theorem dX10_happens_66 : decode cX10_happens 66 = .ok (.iconst 2, 1) := by decide +kernel
theorem dX10_happens_67 : decode cX10_happens 67 = .ok (.iload_n 2, 1) := by decide +kernel
theorem dX10_happens_68 : decode cX10_happens 68 = .ok (.bipush 10, 2) := by decide +kernel
theorem dX10_happens_70 : decode cX10_happens 70 = .ok (.idiv, 1) := by decide +kernel
theorem dX10_happens_71 : decode cX10_happens 71 = .ok (.iload_n 2, 1) := by decide +kernel
theorem dX10_happens_72 : decode cX10_happens 72 = .ok (.bipush 10, 2) := by decide +kernel
theorem dX10_happens_74 : decode cX10_happens 74 = .ok (.irem, 1) := by decide +kernel
theorem dX10_happens_75 : decode cX10_happens 75 = .ok (.invokevirtual 151, 3) := by decide +kernel
theorem dX10_happens_78 : decode cX10_happens 78 = .ok (.return_, 1) := by decide +kernel
theorem dX10_after_0 : decode cX10_after 0 = .ok (.iload_n 1, 1) := by decide +kernel
theorem dX10_after_1 : decode cX10_after 1 = .ok (.i2l, 1) := by decide +kernel
theorem dX10_after_2 : decode cX10_after 2 = .ok (.lconst 0, 1) := by decide +kernel
theorem dX10_after_3 : decode cX10_after 3 = .ok (.ldc2_w 241, 3) := by decide +kernel
theorem dX10_after_6 : decode cX10_after 6 = .ok (.invokestatic 115, 3) := by decide +kernel
theorem dX10_after_9 : decode cX10_after 9 = .ok (.ifCond .ne 5, 3) := by decide +kernel
theorem dX10_after_12 : decode cX10_after 12 = .ok (.iconst (-1), 1) := by decide +kernel
theorem dX10_after_13 : decode cX10_after 13 = .ok (.ireturn, 1) := by decide +kernel
theorem dX10_after_14 : decode cX10_after 14 = .ok (.aload_n 0, 1) := by decide +kernel
theorem dX10_after_15 : decode cX10_after 15 = .ok (.iconst 0, 1) := by decide +kernel
theorem dX10_after_16 : decode cX10_after 16 = .ok (.iconst 2, 1) := by decide +kernel
theorem dX10_after_17 : decode cX10_after 17 = .ok (.invokevirtual 339, 3) := by decide +kernel
theorem dX10_after_20 : decode cX10_after 20 = .ok (.iconst 0, 1) := by decide +kernel
theorem dX10_after_21 : decode cX10_after 21 = .ok (.istore_n 2, 1) := by decide +kernel
theorem dX10_after_22 : decode cX10_after 22 = .ok (.iload_n 2, 1) := by decide +kernel
theorem dX10_after_23 : decode cX10_after 23 = .ok (.aload_n 0, 1) := by decide +kernel
theorem dX10_after_24 : decode cX10_after 24 = .ok (.getfield 328, 3) := by decide +kernel
theorem dX10_after_27 : decode cX10_after 27 = .ok (.if_icmp .ge 25, 3) := by decide +kernel
theorem dX10_after_30 : decode cX10_after 30 = .ok (.aload_n 0, 1) := by decide +kernel
theorem dX10_after_31 : decode cX10_after 31 = .ok (.aload_n 0, 1) := by decide +kernel
theorem dX10_after_32 : decode cX10_after 32 = .ok (.getfield 72, 3) := by decide +kernel
theorem dX10_after_35 : decode cX10_after 35 = .ok (.iload_n 2, 1) := by decide +kernel
theorem dX10_after_36 : decode cX10_after 36 = .ok (.iaload, 1) := by decide +kernel
theorem dX10_after_37 : decode cX10_after 37 = .ok (.aload_n 0, 1) := by decide +kernel
theorem dX10_after_38 : decode cX10_after 38 = .ok (.getfield 75, 3) := by decide +kernel
theorem dX10_after_41 : decode cX10_after 41 = .ok (.iload_n 2, 1) := by decide +kernel
theorem dX10_after_42 : decode cX10_after 42 = .ok (.iaload, 1) := by decide +kernel
theorem dX10_after_43 : decode cX10_after 43 = .ok (.invokevirtual 342, 3) := by decide +kernel
theorem dX10_after_46 : decode cX10_after 46 = .ok (.iinc 2 1, 3) := by decide +kernel
theorem dX10_after_49 : decode cX10_after 49 = .ok (.goto (-27), 3) := by decide +kernel
theorem dX10_after_52 : decode cX10_after 52 = .ok (.iload_n 1, 1) := by decide +kernel
theorem dX10_after_53 : decode cX10_after 53 = .ok (.ifCond .ne 10, 3) := by decide +kernel
theorem dX10_after_56 : decode cX10_after 56 = .ok (.aload_n 0, 1) := by decide +kernel
theorem dX10_after_57 : decode cX10_after 57 = .ok (.getfield 11, 3) := by decide +kernel
theorem dX10_after_60 : decode cX10_after 60 = .ok (.iconst 2, 1) := by decide +kernel
theorem dX10_after_61 : decode cX10_after 61 = .ok (.iaload, 1) := by decide +kernel
theorem dX10_after_62 : decode cX10_after 62 = .ok (.ireturn, 1) := by decide +kernel
theorem dX10_after_63 : decode cX10_after 63 = .ok (.aload_n 0, 1) := by decide +kernel
theorem dX10_after_64 : decode cX10_after 64 = .ok (.getfield 11, 3) := by decide +kernel
theorem dX10_after_67 : decode cX10_after 67 = .ok (.iconst 2, 1) := by decide +kernel
theorem dX10_after_68 : decode cX10_after 68 = .ok (.iaload, 1) := by decide +kernel
theorem dX10_after_69 : decode cX10_after 69 = .ok (.ifCond .ne 6, 3) := by decide +kernel
theorem dX10_after_72 : decode cX10_after 72 = .ok (.bipush (-3), 2) := by decide +kernel
theorem dX10_after_74 : decode cX10_after 74 = .ok (.ireturn, 1) := by decide +kernel
theorem dX10_after_75 : decode cX10_after 75 = .ok (.aload_n 0, 1) := by decide +kernel
theorem dX10_after_76 : decode cX10_after 76 = .ok (.iconst 2, 1) := by decide +kernel
theorem dX10_after_77 : decode cX10_after 77 = .ok (.iload_n 1, 1) := by decide +kernel
theorem dX10_after_78 : decode cX10_after 78 = .ok (.iconst 1, 1) := by decide +kernel
theorem dX10_after_79 : decode cX10_after 79 = .ok (.if_icmp .ne 7, 3) := by decide +kernel
theorem dX10_after_82 : decode cX10_after 82 = .ok (.iconst 4, 1) := by decide +kernel
theorem dX10_after_83 : decode cX10_after 83 = .ok (.goto 4, 3) := by decide +kernel
theorem dX10_after_86 : decode cX10_after 86 = .ok (.iconst 3, 1) := by decide +kernel
theorem dX10_after_87 : decode cX10_after 87 = .ok (.invokevirtual 248, 3) := by decide +kernel
theorem dX10_after_90 : decode cX10_after 90 = .ok (.ireturn, 1) := by decide +kernel
theorem dX10_book_0 : decode cX10_book 0 = .ok (.iload_n 1, 1) := by decide +kernel
theorem dX10_book_1 : decode cX10_book 1 = .ok (.iconst (-1), 1) := by decide +kernel
theorem dX10_book_2 : decode cX10_book 2 = .ok (.if_icmp .ne 10, 3) := by decide +kernel
theorem dX10_book_5 : decode cX10_book 5 = .ok (.aload_n 0, 1) := by decide +kernel
theorem dX10_book_6 : decode cX10_book 6 = .ok (.iconst 0, 1) := by decide +kernel
theorem dX10_book_7 : decode cX10_book 7 = .ok (.putfield 345, 3) := by decide +kernel
theorem dX10_book_10 : decode cX10_book 10 = .ok (.iconst 0, 1) := by decide +kernel
theorem dX10_book_11 : decode cX10_book 11 = .ok (.ireturn, 1) := by decide +kernel
theorem dX10_book_12 : decode cX10_book 12 = .ok (.iload_n 1, 1) := by decide +kernel
theorem dX10_book_13 : decode cX10_book 13 = .ok (.i2l, 1) := by decide +kernel
theorem dX10_book_14 : decode cX10_book 14 = .ok (.lconst 0, 1) := by decide +kernel
theorem dX10_book_15 : decode cX10_book 15 = .ok (.ldc2_w 263, 3) := by decide +kernel
theorem dX10_book_18 : decode cX10_book 18 = .ok (.invokestatic 115, 3) := by decide +kernel
theorem dX10_book_21 : decode cX10_book 21 = .ok (.ifCond .ne 5, 3) := by decide +kernel
theorem dX10_book_24 : decode cX10_book 24 = .ok (.iconst (-1), 1) := by decide +kernel
theorem dX10_book_25 : decode cX10_book 25 = .ok (.ireturn, 1) := by decide +kernel
theorem dX10_book_26 : decode cX10_book 26 = .ok (.iload_n 2, 1) := by decide +kernel
theorem dX10_book_27 : decode cX10_book 27 = .ok (.i2l, 1) := by decide +kernel
theorem dX10_book_28 : decode cX10_book 28 = .ok (.lconst 0, 1) := by decide +kernel
theorem dX10_book_29 : decode cX10_book 29 = .ok (.lconst 1, 1) := by decide +kernel
theorem dX10_book_30 : decode cX10_book 30 = .ok (.invokestatic 115, 3) := by decide +kernel
theorem dX10_book_33 : decode cX10_book 33 = .ok (.ifCond .ne 6, 3) := by decide +kernel
theorem dX10_book_36 : decode cX10_book 36 = .ok (.bipush (-2), 2) := by decide +kernel
theorem dX10_book_38 : decode cX10_book 38 = .ok (.ireturn, 1) := by decide +kernel
theorem dX10_book_39 : decode cX10_book 39 = .ok (.aload_n 0, 1) := by decide +kernel
theorem dX10_book_40 : decode cX10_book 40 = .ok (.getfield 345, 3) := by decide +kernel
theorem dX10_book_43 : decode cX10_book 43 = .ok (.bipush 8, 2) := by decide +kernel
theorem dX10_book_45 : decode cX10_book 45 = .ok (.if_icmp .ne 6, 3) := by decide +kernel
theorem dX10_book_48 : decode cX10_book 48 = .ok (.bipush (-4), 2) := by decide +kernel
theorem dX10_book_50 : decode cX10_book 50 = .ok (.ireturn, 1) := by decide +kernel
theorem dX10_book_51 : decode cX10_book 51 = .ok (.aload_n 0, 1) := by decide +kernel
theorem dX10_book_52 : decode cX10_book 52 = .ok (.getfield 78, 3) := by decide +kernel
theorem dX10_book_55 : decode cX10_book 55 = .ok (.aload_n 0, 1) := by decide +kernel
theorem dX10_book_56 : decode cX10_book 56 = .ok (.getfield 345, 3) := by decide +kernel
theorem dX10_book_59 : decode cX10_book 59 = .ok (.iload_n 1, 1) := by decide +kernel
theorem dX10_book_60 : decode cX10_book 60 = .ok (.iastore, 1) := by decide +kernel
theorem dX10_book_61 : decode cX10_book 61 = .ok (.aload_n 0, 1) := by decide +kernel
theorem dX10_book_62 : decode cX10_book 62 = .ok (.getfield 81, 3) := by decide +kernel
theorem dX10_book_65 : decode cX10_book 65 = .ok (.aload_n 0, 1) := by decide +kernel
theorem dX10_book_66 : decode cX10_book 66 = .ok (.getfield 345, 3) := by decide +kernel
theorem dX10_book_69 : decode cX10_book 69 = .ok (.iload_n 2, 1) := by decide +kernel
theorem dX10_book_70 : decode cX10_book 70 = .ok (.iastore, 1) := by decide +kernel
theorem dX10_book_71 : decode cX10_book 71 = .ok (.aload_n 0, 1) := by decide +kernel
theorem dX10_book_72 : decode cX10_book 72 = .ok (.dup, 1) := by decide +kernel
theorem dX10_book_73 : decode cX10_book 73 = .ok (.getfield 345, 3) := by decide +kernel
theorem dX10_book_76 : decode cX10_book 76 = .ok (.iconst 1, 1) := by decide +kernel
theorem dX10_book_77 : decode cX10_book 77 = .ok (.iadd, 1) := by decide +kernel
theorem dX10_book_78 : decode cX10_book 78 = .ok (.putfield 345, 3) := by decide +kernel
theorem dX10_book_81 : decode cX10_book 81 = .ok (.aload_n 0, 1) := by decide +kernel
theorem dX10_book_82 : decode cX10_book 82 = .ok (.getfield 345, 3) := by decide +kernel
theorem dX10_book_85 : decode cX10_book 85 = .ok (.ireturn, 1) := by decide +kernel
theorem dX10_looked_0 : decode cX10_looked 0 = .ok (.iconst 0, 1) := by decide +kernel
theorem dX10_looked_1 : decode cX10_looked 1 = .ok (.istore_n 1, 1) := by decide +kernel
theorem dX10_looked_2 : decode cX10_looked 2 = .ok (.iload_n 1, 1) := by decide +kernel
theorem dX10_looked_3 : decode cX10_looked 3 = .ok (.aload_n 0, 1) := by decide +kernel
theorem dX10_looked_4 : decode cX10_looked 4 = .ok (.getfield 345, 3) := by decide +kernel
theorem dX10_looked_7 : decode cX10_looked 7 = .ok (.if_icmp .ge 51, 3) := by decide +kernel
theorem dX10_looked_10 : decode cX10_looked 10 = .ok (.aload_n 0, 1) := by decide +kernel
theorem dX10_looked_11 : decode cX10_looked 11 = .ok (.iconst 0, 1) := by decide +kernel
theorem dX10_looked_12 : decode cX10_looked 12 = .ok (.aload_n 0, 1) := by decide +kernel
theorem dX10_looked_13 : decode cX10_looked 13 = .ok (.getfield 78, 3) := by decide +kernel
theorem dX10_looked_16 : decode cX10_looked 16 = .ok (.iload_n 1, 1) := by decide +kernel
theorem dX10_looked_17 : decode cX10_looked 17 = .ok (.iaload, 1) := by decide +kernel
theorem dX10_looked_18 : decode cX10_looked 18 = .ok (.bipush 10, 2) := by decide +kernel
theorem dX10_looked_20 : decode cX10_looked 20 = .ok (.idiv, 1) := by decide +kernel
theorem dX10_looked_21 : decode cX10_looked 21 = .ok (.aload_n 0, 1) := by decide +kernel
theorem dX10_looked_22 : decode cX10_looked 22 = .ok (.getfield 78, 3) := by decide +kernel
theorem dX10_looked_25 : decode cX10_looked 25 = .ok (.iload_n 1, 1) := by decide +kernel
theorem dX10_looked_26 : decode cX10_looked 26 = .ok (.iaload, 1) := by decide +kernel
theorem dX10_looked_27 : decode cX10_looked 27 = .ok (.bipush 10, 2) := by decide +kernel
theorem dX10_looked_29 : decode cX10_looked 29 = .ok (.irem, 1) := by decide +kernel
theorem dX10_looked_30 : decode cX10_looked 30 = .ok (.invokevirtual 234, 3) := by decide +kernel
theorem dX10_looked_33 : decode cX10_looked 33 = .ok (.ifCond .eq 7, 3) := by decide +kernel
theorem dX10_looked_36 : decode cX10_looked 36 = .ok (.iconst 1, 1) := by decide +kernel
theorem dX10_looked_37 : decode cX10_looked 37 = .ok (.goto 4, 3) := by decide +kernel
theorem dX10_looked_40 : decode cX10_looked 40 = .ok (.iconst 0, 1) := by decide +kernel
theorem dX10_looked_41 : decode cX10_looked 41 = .ok (.aload_n 0, 1) := by decide +kernel
theorem dX10_looked_42 : decode cX10_looked 42 = .ok (.getfield 81, 3) := by decide +kernel
theorem dX10_looked_45 : decode cX10_looked 45 = .ok (.iload_n 1, 1) := by decide +kernel
theorem dX10_looked_46 : decode cX10_looked 46 = .ok (.iaload, 1) := by decide +kernel
theorem dX10_looked_47 : decode cX10_looked 47 = .ok (.if_icmp .eq 5, 3) := by decide +kernel
theorem dX10_looked_50 : decode cX10_looked 50 = .ok (.iload_n 1, 1) := by decide +kernel
theorem dX10_looked_51 : decode cX10_looked 51 = .ok (.ireturn, 1) := by decide +kernel
theorem dX10_looked_52 : decode cX10_looked 52 = .ok (.iinc 1 1, 3) := by decide +kernel
theorem dX10_looked_55 : decode cX10_looked 55 = .ok (.goto (-53), 3) := by decide +kernel
theorem dX10_looked_58 : decode cX10_looked 58 = .ok (.bipush (-5), 2) := by decide +kernel
theorem dX10_looked_60 : decode cX10_looked 60 = .ok (.ireturn, 1) := by decide +kernel
theorem dX10_isTape_0 : decode cX10_isTape 0 = .ok (.iload_n 0, 1) := by decide +kernel
theorem dX10_isTape_1 : decode cX10_isTape 1 = .ok (.i2l, 1) := by decide +kernel
theorem dX10_isTape_2 : decode cX10_isTape 2 = .ok (.lconst 0, 1) := by decide +kernel
theorem dX10_isTape_3 : decode cX10_isTape 3 = .ok (.ldc2_w 331, 3) := by decide +kernel
theorem dX10_isTape_6 : decode cX10_isTape 6 = .ok (.invokestatic 115, 3) := by decide +kernel
theorem dX10_isTape_9 : decode cX10_isTape 9 = .ok (.ireturn, 1) := by decide +kernel
theorem dX10_judge_0 : decode cX10_judge 0 = .ok (.iload_n 1, 1) := by decide +kernel
theorem dX10_judge_1 : decode cX10_judge 1 = .ok (.invokestatic 136, 3) := by decide +kernel
theorem dX10_judge_4 : decode cX10_judge 4 = .ok (.ifCond .eq 10, 3) := by decide +kernel
theorem dX10_judge_7 : decode cX10_judge 7 = .ok (.iload_n 2, 1) := by decide +kernel
theorem dX10_judge_8 : decode cX10_judge 8 = .ok (.invokestatic 348, 3) := by decide +kernel
theorem dX10_judge_11 : decode cX10_judge 11 = .ok (.ifCond .ne 5, 3) := by decide +kernel
theorem dX10_judge_14 : decode cX10_judge 14 = .ok (.iconst (-1), 1) := by decide +kernel
theorem dX10_judge_15 : decode cX10_judge 15 = .ok (.ireturn, 1) := by decide +kernel
theorem dX10_judge_16 : decode cX10_judge 16 = .ok (.aload_n 0, 1) := by decide +kernel
theorem dX10_judge_17 : decode cX10_judge 17 = .ok (.getfield 84, 3) := by decide +kernel
theorem dX10_judge_20 : decode cX10_judge 20 = .ok (.iload_n 2, 1) := by decide +kernel
theorem dX10_judge_21 : decode cX10_judge 21 = .ok (.iaload, 1) := by decide +kernel
theorem dX10_judge_22 : decode cX10_judge 22 = .ok (.ifCond .le 6, 3) := by decide +kernel
theorem dX10_judge_25 : decode cX10_judge 25 = .ok (.bipush (-12), 2) := by decide +kernel
theorem dX10_judge_27 : decode cX10_judge 27 = .ok (.ireturn, 1) := by decide +kernel
theorem dX10_judge_28 : decode cX10_judge 28 = .ok (.iconst 0, 1) := by decide +kernel
theorem dX10_judge_29 : decode cX10_judge 29 = .ok (.istore 4, 2) := by decide +kernel
theorem dX10_judge_31 : decode cX10_judge 31 = .ok (.iload 4, 2) := by decide +kernel
theorem dX10_judge_33 : decode cX10_judge 33 = .ok (.bipush 10, 2) := by decide +kernel
theorem dX10_judge_35 : decode cX10_judge 35 = .ok (.if_icmp .ge 78, 3) := by decide +kernel
theorem dX10_judge_38 : decode cX10_judge 38 = .ok (.iload_n 3, 1) := by decide +kernel
theorem dX10_judge_39 : decode cX10_judge 39 = .ok (.i2l, 1) := by decide +kernel
theorem dX10_judge_40 : decode cX10_judge 40 = .ok (.iload 4, 2) := by decide +kernel
theorem dX10_judge_42 : decode cX10_judge 42 = .ok (.i2l, 1) := by decide +kernel
theorem dX10_judge_43 : decode cX10_judge 43 = .ok (.ladd, 1) := by decide +kernel
theorem dX10_judge_44 : decode cX10_judge 44 = .ok (.lstore 5, 2) := by decide +kernel
theorem dX10_judge_46 : decode cX10_judge 46 = .ok (.iload_n 3, 1) := by decide +kernel
theorem dX10_judge_47 : decode cX10_judge 47 = .ok (.ifCond .lt 26, 3) := by decide +kernel
theorem dX10_judge_50 : decode cX10_judge 50 = .ok (.aload_n 0, 1) := by decide +kernel
theorem dX10_judge_51 : decode cX10_judge 51 = .ok (.getfield 84, 3) := by decide +kernel
theorem dX10_judge_54 : decode cX10_judge 54 = .ok (.iload_n 2, 1) := by decide +kernel
theorem dX10_judge_55 : decode cX10_judge 55 = .ok (.iaload, 1) := by decide +kernel
theorem dX10_judge_56 : decode cX10_judge 56 = .ok (.iconst (-1), 1) := by decide +kernel
theorem dX10_judge_57 : decode cX10_judge 57 = .ok (.if_icmp .eq 16, 3) := by decide +kernel
theorem dX10_judge_60 : decode cX10_judge 60 = .ok (.lload 5, 2) := by decide +kernel
theorem dX10_judge_62 : decode cX10_judge 62 = .ok (.aload_n 0, 1) := by decide +kernel
theorem dX10_judge_63 : decode cX10_judge 63 = .ok (.getfield 87, 3) := by decide +kernel
theorem dX10_judge_66 : decode cX10_judge 66 = .ok (.iload_n 2, 1) := by decide +kernel
theorem dX10_judge_67 : decode cX10_judge 67 = .ok (.iaload, 1) := by decide +kernel
theorem dX10_judge_68 : decode cX10_judge 68 = .ok (.i2l, 1) := by decide +kernel
theorem dX10_judge_69 : decode cX10_judge 69 = .ok (.lcmp, 1) := by decide +kernel
theorem dX10_judge_70 : decode cX10_judge 70 = .ok (.ifCond .lt 9, 3) := by decide +kernel
theorem dX10_judge_73 : decode cX10_judge 73 = .ok (.bipush 100, 2) := by decide +kernel
theorem dX10_judge_75 : decode cX10_judge 75 = .ok (.iload 4, 2) := by decide +kernel
theorem dX10_judge_77 : decode cX10_judge 77 = .ok (.iadd, 1) := by decide +kernel
theorem dX10_judge_78 : decode cX10_judge 78 = .ok (.ireturn, 1) := by decide +kernel
theorem dX10_judge_79 : decode cX10_judge 79 = .ok (.aload_n 0, 1) := by decide +kernel
theorem dX10_judge_80 : decode cX10_judge 80 = .ok (.getfield 90, 3) := by decide +kernel
theorem dX10_judge_83 : decode cX10_judge 83 = .ok (.bipush 60, 2) := by decide +kernel
theorem dX10_judge_85 : decode cX10_judge 85 = .ok (.iload_n 2, 1) := by decide +kernel
theorem dX10_judge_86 : decode cX10_judge 86 = .ok (.imul, 1) := by decide +kernel
theorem dX10_judge_87 : decode cX10_judge 87 = .ok (.lload 5, 2) := by decide +kernel
theorem dX10_judge_89 : decode cX10_judge 89 = .ok (.l2i, 1) := by decide +kernel
theorem dX10_judge_90 : decode cX10_judge 90 = .ok (.iadd, 1) := by decide +kernel
theorem dX10_judge_91 : decode cX10_judge 91 = .ok (.laload, 1) := by decide +kernel
theorem dX10_judge_92 : decode cX10_judge 92 = .ok (.aload_n 0, 1) := by decide +kernel
theorem dX10_judge_93 : decode cX10_judge 93 = .ok (.iload_n 1, 1) := by decide +kernel
theorem dX10_judge_94 : decode cX10_judge 94 = .ok (.iload 4, 2) := by decide +kernel
theorem dX10_judge_96 : decode cX10_judge 96 = .ok (.invokevirtual 301, 3) := by decide +kernel
theorem dX10_judge_99 : decode cX10_judge 99 = .ok (.i2l, 1) := by decide +kernel
theorem dX10_judge_100 : decode cX10_judge 100 = .ok (.lcmp, 1) := by decide +kernel
theorem dX10_judge_101 : decode cX10_judge 101 = .ok (.ifCond .eq 6, 3) := by decide +kernel
theorem dX10_judge_104 : decode cX10_judge 104 = .ok (.iload 4, 2) := by decide +kernel
theorem dX10_judge_106 : decode cX10_judge 106 = .ok (.ireturn, 1) := by decide +kernel
theorem dX10_judge_107 : decode cX10_judge 107 = .ok (.iinc 4 1, 3) := by decide +kernel
theorem dX10_judge_110 : decode cX10_judge 110 = .ok (.goto (-79), 3) := by decide +kernel
theorem dX10_judge_113 : decode cX10_judge 113 = .ok (.bipush (-5), 2) := by decide +kernel
theorem dX10_judge_115 : decode cX10_judge 115 = .ok (.ireturn, 1) := by decide +kernel
theorem dX10_tape_0 : decode cX10_tape 0 = .ok (.iload_n 1, 1) := by decide +kernel
theorem dX10_tape_1 : decode cX10_tape 1 = .ok (.invokestatic 348, 3) := by decide +kernel
theorem dX10_tape_4 : decode cX10_tape 4 = .ok (.ifCond .ne 5, 3) := by decide +kernel
theorem dX10_tape_7 : decode cX10_tape 7 = .ok (.iconst (-1), 1) := by decide +kernel
theorem dX10_tape_8 : decode cX10_tape 8 = .ok (.ireturn, 1) := by decide +kernel
theorem dX10_tape_9 : decode cX10_tape 9 = .ok (.iload_n 2, 1) := by decide +kernel
theorem dX10_tape_10 : decode cX10_tape 10 = .ok (.i2l, 1) := by decide +kernel
theorem dX10_tape_11 : decode cX10_tape 11 = .ok (.ldc2_w 351, 3) := by decide +kernel
theorem dX10_tape_14 : decode cX10_tape 14 = .ok (.ldc2_w 243, 3) := by decide +kernel
theorem dX10_tape_17 : decode cX10_tape 17 = .ok (.invokestatic 115, 3) := by decide +kernel
theorem dX10_tape_20 : decode cX10_tape 20 = .ok (.ifCond .eq 14, 3) := by decide +kernel
theorem dX10_tape_23 : decode cX10_tape 23 = .ok (.iload_n 2, 1) := by decide +kernel
theorem dX10_tape_24 : decode cX10_tape 24 = .ok (.iconst (-1), 1) := by decide +kernel
theorem dX10_tape_25 : decode cX10_tape 25 = .ok (.if_icmp .eq 12, 3) := by decide +kernel
theorem dX10_tape_28 : decode cX10_tape 28 = .ok (.iload_n 3, 1) := by decide +kernel
theorem dX10_tape_29 : decode cX10_tape 29 = .ok (.bipush 60, 2) := by decide +kernel
theorem dX10_tape_31 : decode cX10_tape 31 = .ok (.if_icmp .le 6, 3) := by decide +kernel
theorem dX10_tape_34 : decode cX10_tape 34 = .ok (.bipush (-2), 2) := by decide +kernel
theorem dX10_tape_36 : decode cX10_tape 36 = .ok (.ireturn, 1) := by decide +kernel
theorem dX10_tape_37 : decode cX10_tape 37 = .ok (.iload_n 2, 1) := by decide +kernel
theorem dX10_tape_38 : decode cX10_tape 38 = .ok (.iconst (-1), 1) := by decide +kernel
theorem dX10_tape_39 : decode cX10_tape 39 = .ok (.if_icmp .eq 10, 3) := by decide +kernel
theorem dX10_tape_42 : decode cX10_tape 42 = .ok (.iload_n 3, 1) := by decide +kernel
theorem dX10_tape_43 : decode cX10_tape 43 = .ok (.ifCond .ge 6, 3) := by decide +kernel
theorem dX10_tape_46 : decode cX10_tape 46 = .ok (.bipush (-14), 2) := by decide +kernel
theorem dX10_tape_48 : decode cX10_tape 48 = .ok (.ireturn, 1) := by decide +kernel
theorem dX10_tape_49 : decode cX10_tape 49 = .ok (.aload_n 0, 1) := by decide +kernel
theorem dX10_tape_50 : decode cX10_tape 50 = .ok (.getfield 84, 3) := by decide +kernel
theorem dX10_tape_53 : decode cX10_tape 53 = .ok (.iload_n 1, 1) := by decide +kernel
theorem dX10_tape_54 : decode cX10_tape 54 = .ok (.iload_n 2, 1) := by decide +kernel
theorem dX10_tape_55 : decode cX10_tape 55 = .ok (.iastore, 1) := by decide +kernel
theorem dX10_tape_56 : decode cX10_tape 56 = .ok (.aload_n 0, 1) := by decide +kernel
theorem dX10_tape_57 : decode cX10_tape 57 = .ok (.getfield 87, 3) := by decide +kernel
theorem dX10_tape_60 : decode cX10_tape 60 = .ok (.iload_n 1, 1) := by decide +kernel
theorem dX10_tape_61 : decode cX10_tape 61 = .ok (.iload_n 2, 1) := by decide +kernel
theorem dX10_tape_62 : decode cX10_tape 62 = .ok (.iconst (-1), 1) := by decide +kernel
theorem dX10_tape_63 : decode cX10_tape 63 = .ok (.if_icmp .ne 7, 3) := by decide +kernel
theorem dX10_tape_66 : decode cX10_tape 66 = .ok (.iconst 0, 1) := by decide +kernel
theorem dX10_tape_67 : decode cX10_tape 67 = .ok (.goto 4, 3) := by decide +kernel
theorem dX10_tape_70 : decode cX10_tape 70 = .ok (.iload_n 3, 1) := by decide +kernel
theorem dX10_tape_71 : decode cX10_tape 71 = .ok (.iastore, 1) := by decide +kernel
theorem dX10_tape_72 : decode cX10_tape 72 = .ok (.iconst 0, 1) := by decide +kernel
theorem dX10_tape_73 : decode cX10_tape 73 = .ok (.istore 4, 2) := by decide +kernel
theorem dX10_tape_75 : decode cX10_tape 75 = .ok (.iload 4, 2) := by decide +kernel
theorem dX10_tape_77 : decode cX10_tape 77 = .ok (.bipush 60, 2) := by decide +kernel
theorem dX10_tape_79 : decode cX10_tape 79 = .ok (.if_icmp .ge 22, 3) := by decide +kernel
theorem dX10_tape_82 : decode cX10_tape 82 = .ok (.aload_n 0, 1) := by decide +kernel
theorem dX10_tape_83 : decode cX10_tape 83 = .ok (.getfield 90, 3) := by decide +kernel
theorem dX10_tape_86 : decode cX10_tape 86 = .ok (.bipush 60, 2) := by decide +kernel
theorem dX10_tape_88 : decode cX10_tape 88 = .ok (.iload_n 1, 1) := by decide +kernel
theorem dX10_tape_89 : decode cX10_tape 89 = .ok (.imul, 1) := by decide +kernel
theorem dX10_tape_90 : decode cX10_tape 90 = .ok (.iload 4, 2) := by decide +kernel
theorem dX10_tape_92 : decode cX10_tape 92 = .ok (.iadd, 1) := by decide +kernel
theorem dX10_tape_93 : decode cX10_tape 93 = .ok (.lconst 0, 1) := by decide +kernel
theorem dX10_tape_94 : decode cX10_tape 94 = .ok (.lastore, 1) := by decide +kernel
theorem dX10_tape_95 : decode cX10_tape 95 = .ok (.iinc 4 1, 3) := by decide +kernel
theorem dX10_tape_98 : decode cX10_tape 98 = .ok (.goto (-23), 3) := by decide +kernel
theorem dX10_tape_101 : decode cX10_tape 101 = .ok (.iconst 1, 1) := by decide +kernel
theorem dX10_tape_102 : decode cX10_tape 102 = .ok (.ireturn, 1) := by decide +kernel
theorem dX10_asSort_0 : decode cX10_asSort 0 = .ok (.iload_n 0, 1) := by decide +kernel
theorem dX10_asSort_1 : decode cX10_asSort 1 = .ok (.tableswitch 47 0 3 #[31, 36, 41, 45], 31) := by decide +kernel
theorem dX10_asSort_32 : decode cX10_asSort 32 = .ok (.lload_n 1, 1) := by decide +kernel
theorem dX10_asSort_33 : decode cX10_asSort 33 = .ok (.l2i, 1) := by decide +kernel
theorem dX10_asSort_34 : decode cX10_asSort 34 = .ok (.i2b, 1) := by decide +kernel
theorem dX10_asSort_35 : decode cX10_asSort 35 = .ok (.i2l, 1) := by decide +kernel
theorem dX10_asSort_36 : decode cX10_asSort 36 = .ok (.lreturn, 1) := by decide +kernel
theorem dX10_asSort_37 : decode cX10_asSort 37 = .ok (.lload_n 1, 1) := by decide +kernel
theorem dX10_asSort_38 : decode cX10_asSort 38 = .ok (.l2i, 1) := by decide +kernel
theorem dX10_asSort_39 : decode cX10_asSort 39 = .ok (.i2s, 1) := by decide +kernel
theorem dX10_asSort_40 : decode cX10_asSort 40 = .ok (.i2l, 1) := by decide +kernel
theorem dX10_asSort_41 : decode cX10_asSort 41 = .ok (.lreturn, 1) := by decide +kernel
theorem dX10_asSort_42 : decode cX10_asSort 42 = .ok (.lload_n 1, 1) := by decide +kernel
theorem dX10_asSort_43 : decode cX10_asSort 43 = .ok (.l2i, 1) := by decide +kernel
theorem dX10_asSort_44 : decode cX10_asSort 44 = .ok (.i2l, 1) := by decide +kernel
theorem dX10_asSort_45 : decode cX10_asSort 45 = .ok (.lreturn, 1) := by decide +kernel
theorem dX10_asSort_46 : decode cX10_asSort 46 = .ok (.lload_n 1, 1) := by decide +kernel
theorem dX10_asSort_47 : decode cX10_asSort 47 = .ok (.lreturn, 1) := by decide +kernel
theorem dX10_asSort_48 : decode cX10_asSort 48 = .ok (.lload_n 1, 1) := by decide +kernel
theorem dX10_asSort_49 : decode cX10_asSort 49 = .ok (.lconst 0, 1) := by decide +kernel
theorem dX10_asSort_50 : decode cX10_asSort 50 = .ok (.lcmp, 1) := by decide +kernel
theorem dX10_asSort_51 : decode cX10_asSort 51 = .ok (.ifCond .eq 7, 3) := by decide +kernel
theorem dX10_asSort_54 : decode cX10_asSort 54 = .ok (.lconst 1, 1) := by decide +kernel
theorem dX10_asSort_55 : decode cX10_asSort 55 = .ok (.goto 4, 3) := by decide +kernel
theorem dX10_asSort_58 : decode cX10_asSort 58 = .ok (.lconst 0, 1) := by decide +kernel
theorem dX10_asSort_59 : decode cX10_asSort 59 = .ok (.lreturn, 1) := by decide +kernel
theorem dX10_item_0 : decode cX10_item 0 = .ok (.iload_n 1, 1) := by decide +kernel
theorem dX10_item_1 : decode cX10_item 1 = .ok (.invokestatic 348, 3) := by decide +kernel
theorem dX10_item_4 : decode cX10_item 4 = .ok (.ifCond .ne 5, 3) := by decide +kernel
theorem dX10_item_7 : decode cX10_item 7 = .ok (.iconst (-1), 1) := by decide +kernel
theorem dX10_item_8 : decode cX10_item 8 = .ok (.ireturn, 1) := by decide +kernel
theorem dX10_item_9 : decode cX10_item 9 = .ok (.aload_n 0, 1) := by decide +kernel
theorem dX10_item_10 : decode cX10_item 10 = .ok (.getfield 84, 3) := by decide +kernel
theorem dX10_item_13 : decode cX10_item 13 = .ok (.iload_n 1, 1) := by decide +kernel
theorem dX10_item_14 : decode cX10_item 14 = .ok (.iaload, 1) := by decide +kernel
theorem dX10_item_15 : decode cX10_item 15 = .ok (.iconst (-1), 1) := by decide +kernel
theorem dX10_item_16 : decode cX10_item 16 = .ok (.if_icmp .ne 6, 3) := by decide +kernel
theorem dX10_item_19 : decode cX10_item 19 = .ok (.bipush (-11), 2) := by decide +kernel
theorem dX10_item_21 : decode cX10_item 21 = .ok (.ireturn, 1) := by decide +kernel
theorem dX10_item_22 : decode cX10_item 22 = .ok (.iload_n 2, 1) := by decide +kernel
theorem dX10_item_23 : decode cX10_item 23 = .ok (.i2l, 1) := by decide +kernel
theorem dX10_item_24 : decode cX10_item 24 = .ok (.lconst 0, 1) := by decide +kernel
theorem dX10_item_25 : decode cX10_item 25 = .ok (.aload_n 0, 1) := by decide +kernel
theorem dX10_item_26 : decode cX10_item 26 = .ok (.getfield 87, 3) := by decide +kernel
theorem dX10_item_29 : decode cX10_item 29 = .ok (.iload_n 1, 1) := by decide +kernel
theorem dX10_item_30 : decode cX10_item 30 = .ok (.iaload, 1) := by decide +kernel
theorem dX10_item_31 : decode cX10_item 31 = .ok (.iconst 1, 1) := by decide +kernel
theorem dX10_item_32 : decode cX10_item 32 = .ok (.isub, 1) := by decide +kernel
theorem dX10_item_33 : decode cX10_item 33 = .ok (.i2l, 1) := by decide +kernel
theorem dX10_item_34 : decode cX10_item 34 = .ok (.invokestatic 115, 3) := by decide +kernel
theorem dX10_item_37 : decode cX10_item 37 = .ok (.ifCond .ne 6, 3) := by decide +kernel
theorem dX10_item_40 : decode cX10_item 40 = .ok (.bipush (-13), 2) := by decide +kernel
theorem dX10_item_42 : decode cX10_item 42 = .ok (.ireturn, 1) := by decide +kernel
theorem dX10_item_43 : decode cX10_item 43 = .ok (.aload_n 0, 1) := by decide +kernel
theorem dX10_item_44 : decode cX10_item 44 = .ok (.getfield 90, 3) := by decide +kernel
theorem dX10_item_47 : decode cX10_item 47 = .ok (.bipush 60, 2) := by decide +kernel
theorem dX10_item_49 : decode cX10_item 49 = .ok (.iload_n 1, 1) := by decide +kernel
theorem dX10_item_50 : decode cX10_item 50 = .ok (.imul, 1) := by decide +kernel
theorem dX10_item_51 : decode cX10_item 51 = .ok (.iload_n 2, 1) := by decide +kernel
theorem dX10_item_52 : decode cX10_item 52 = .ok (.iadd, 1) := by decide +kernel
theorem dX10_item_53 : decode cX10_item 53 = .ok (.aload_n 0, 1) := by decide +kernel
theorem dX10_item_54 : decode cX10_item 54 = .ok (.getfield 84, 3) := by decide +kernel
theorem dX10_item_57 : decode cX10_item 57 = .ok (.iload_n 1, 1) := by decide +kernel
theorem dX10_item_58 : decode cX10_item 58 = .ok (.iaload, 1) := by decide +kernel
theorem dX10_item_59 : decode cX10_item 59 = .ok (.lload_n 3, 1) := by decide +kernel
theorem dX10_item_60 : decode cX10_item 60 = .ok (.invokestatic 353, 3) := by decide +kernel
theorem dX10_item_63 : decode cX10_item 63 = .ok (.lastore, 1) := by decide +kernel
theorem dX10_item_64 : decode cX10_item 64 = .ok (.iconst 1, 1) := by decide +kernel
theorem dX10_item_65 : decode cX10_item 65 = .ok (.ireturn, 1) := by decide +kernel
theorem dX10_peek_0 : decode cX10_peek 0 = .ok (.iload_n 1, 1) := by decide +kernel
theorem dX10_peek_1 : decode cX10_peek 1 = .ok (.invokestatic 348, 3) := by decide +kernel
theorem dX10_peek_4 : decode cX10_peek 4 = .ok (.ifCond .eq 35, 3) := by decide +kernel
theorem dX10_peek_7 : decode cX10_peek 7 = .ok (.iload_n 2, 1) := by decide +kernel
theorem dX10_peek_8 : decode cX10_peek 8 = .ok (.i2l, 1) := by decide +kernel
theorem dX10_peek_9 : decode cX10_peek 9 = .ok (.lconst 0, 1) := by decide +kernel
theorem dX10_peek_10 : decode cX10_peek 10 = .ok (.aload_n 0, 1) := by decide +kernel
theorem dX10_peek_11 : decode cX10_peek 11 = .ok (.getfield 87, 3) := by decide +kernel
theorem dX10_peek_14 : decode cX10_peek 14 = .ok (.iload_n 1, 1) := by decide +kernel
theorem dX10_peek_15 : decode cX10_peek 15 = .ok (.iaload, 1) := by decide +kernel
theorem dX10_peek_16 : decode cX10_peek 16 = .ok (.iconst 1, 1) := by decide +kernel
theorem dX10_peek_17 : decode cX10_peek 17 = .ok (.isub, 1) := by decide +kernel
theorem dX10_peek_18 : decode cX10_peek 18 = .ok (.i2l, 1) := by decide +kernel
theorem dX10_peek_19 : decode cX10_peek 19 = .ok (.invokestatic 115, 3) := by decide +kernel
theorem dX10_peek_22 : decode cX10_peek 22 = .ok (.ifCond .eq 17, 3) := by decide +kernel
theorem dX10_peek_25 : decode cX10_peek 25 = .ok (.aload_n 0, 1) := by decide +kernel
theorem dX10_peek_26 : decode cX10_peek 26 = .ok (.getfield 90, 3) := by decide +kernel
theorem dX10_peek_29 : decode cX10_peek 29 = .ok (.bipush 60, 2) := by decide +kernel
theorem dX10_peek_31 : decode cX10_peek 31 = .ok (.iload_n 1, 1) := by decide +kernel
theorem dX10_peek_32 : decode cX10_peek 32 = .ok (.imul, 1) := by decide +kernel
theorem dX10_peek_33 : decode cX10_peek 33 = .ok (.iload_n 2, 1) := by decide +kernel
theorem dX10_peek_34 : decode cX10_peek 34 = .ok (.iadd, 1) := by decide +kernel
theorem dX10_peek_35 : decode cX10_peek 35 = .ok (.laload, 1) := by decide +kernel
theorem dX10_peek_36 : decode cX10_peek 36 = .ok (.goto 6, 3) := by decide +kernel
theorem dX10_peek_39 : decode cX10_peek 39 = .ok (.ldc2_w 271, 3) := by decide +kernel
theorem dX10_peek_42 : decode cX10_peek 42 = .ok (.lreturn, 1) := by decide +kernel
theorem dX10_shift_0 : decode cX10_shift 0 = .ok (.iload_n 1, 1) := by decide +kernel
theorem dX10_shift_1 : decode cX10_shift 1 = .ok (.invokestatic 348, 3) := by decide +kernel
theorem dX10_shift_4 : decode cX10_shift 4 = .ok (.ifCond .eq 10, 3) := by decide +kernel
theorem dX10_shift_7 : decode cX10_shift 7 = .ok (.iload_n 3, 1) := by decide +kernel
theorem dX10_shift_8 : decode cX10_shift 8 = .ok (.invokestatic 348, 3) := by decide +kernel
theorem dX10_shift_11 : decode cX10_shift 11 = .ok (.ifCond .ne 5, 3) := by decide +kernel
theorem dX10_shift_14 : decode cX10_shift 14 = .ok (.iconst (-1), 1) := by decide +kernel
theorem dX10_shift_15 : decode cX10_shift 15 = .ok (.ireturn, 1) := by decide +kernel
theorem dX10_shift_16 : decode cX10_shift 16 = .ok (.aload_n 0, 1) := by decide +kernel
theorem dX10_shift_17 : decode cX10_shift 17 = .ok (.getfield 84, 3) := by decide +kernel
theorem dX10_shift_20 : decode cX10_shift 20 = .ok (.iload_n 1, 1) := by decide +kernel
theorem dX10_shift_21 : decode cX10_shift 21 = .ok (.iaload, 1) := by decide +kernel
theorem dX10_shift_22 : decode cX10_shift 22 = .ok (.iconst (-1), 1) := by decide +kernel
theorem dX10_shift_23 : decode cX10_shift 23 = .ok (.if_icmp .eq 13, 3) := by decide +kernel
theorem dX10_shift_26 : decode cX10_shift 26 = .ok (.aload_n 0, 1) := by decide +kernel
theorem dX10_shift_27 : decode cX10_shift 27 = .ok (.getfield 84, 3) := by decide +kernel
theorem dX10_shift_30 : decode cX10_shift 30 = .ok (.iload_n 3, 1) := by decide +kernel
theorem dX10_shift_31 : decode cX10_shift 31 = .ok (.iaload, 1) := by decide +kernel
theorem dX10_shift_32 : decode cX10_shift 32 = .ok (.iconst (-1), 1) := by decide +kernel
theorem dX10_shift_33 : decode cX10_shift 33 = .ok (.if_icmp .ne 6, 3) := by decide +kernel
theorem dX10_shift_36 : decode cX10_shift 36 = .ok (.bipush (-11), 2) := by decide +kernel
theorem dX10_shift_38 : decode cX10_shift 38 = .ok (.ireturn, 1) := by decide +kernel
theorem dX10_shift_39 : decode cX10_shift 39 = .ok (.aload_n 0, 1) := by decide +kernel
theorem dX10_shift_40 : decode cX10_shift 40 = .ok (.getfield 84, 3) := by decide +kernel
theorem dX10_shift_43 : decode cX10_shift 43 = .ok (.iload_n 1, 1) := by decide +kernel
theorem dX10_shift_44 : decode cX10_shift 44 = .ok (.iaload, 1) := by decide +kernel
theorem dX10_shift_45 : decode cX10_shift 45 = .ok (.aload_n 0, 1) := by decide +kernel
theorem dX10_shift_46 : decode cX10_shift 46 = .ok (.getfield 84, 3) := by decide +kernel
theorem dX10_shift_49 : decode cX10_shift 49 = .ok (.iload_n 3, 1) := by decide +kernel
theorem dX10_shift_50 : decode cX10_shift 50 = .ok (.iaload, 1) := by decide +kernel
theorem dX10_shift_51 : decode cX10_shift 51 = .ok (.if_icmp .eq 6, 3) := by decide +kernel
theorem dX10_shift_54 : decode cX10_shift 54 = .ok (.bipush (-12), 2) := by decide +kernel
theorem dX10_shift_56 : decode cX10_shift 56 = .ok (.ireturn, 1) := by decide +kernel
theorem dX10_shift_57 : decode cX10_shift 57 = .ok (.iload 5, 2) := by decide +kernel
theorem dX10_shift_59 : decode cX10_shift 59 = .ok (.ifCond .lt 39, 3) := by decide +kernel
theorem dX10_shift_62 : decode cX10_shift 62 = .ok (.iload_n 2, 1) := by decide +kernel
theorem dX10_shift_63 : decode cX10_shift 63 = .ok (.ifCond .lt 35, 3) := by decide +kernel
theorem dX10_shift_66 : decode cX10_shift 66 = .ok (.iload 4, 2) := by decide +kernel
theorem dX10_shift_68 : decode cX10_shift 68 = .ok (.ifCond .lt 30, 3) := by decide +kernel
theorem dX10_shift_71 : decode cX10_shift 71 = .ok (.iload 5, 2) := by decide +kernel
theorem dX10_shift_73 : decode cX10_shift 73 = .ok (.aload_n 0, 1) := by decide +kernel
theorem dX10_shift_74 : decode cX10_shift 74 = .ok (.getfield 87, 3) := by decide +kernel
theorem dX10_shift_77 : decode cX10_shift 77 = .ok (.iload_n 1, 1) := by decide +kernel
theorem dX10_shift_78 : decode cX10_shift 78 = .ok (.iaload, 1) := by decide +kernel
theorem dX10_shift_79 : decode cX10_shift 79 = .ok (.iload_n 2, 1) := by decide +kernel
theorem dX10_shift_80 : decode cX10_shift 80 = .ok (.isub, 1) := by decide +kernel
theorem dX10_shift_81 : decode cX10_shift 81 = .ok (.if_icmp .gt 17, 3) := by decide +kernel
theorem dX10_shift_84 : decode cX10_shift 84 = .ok (.iload 5, 2) := by decide +kernel
theorem dX10_shift_86 : decode cX10_shift 86 = .ok (.aload_n 0, 1) := by decide +kernel
theorem dX10_shift_87 : decode cX10_shift 87 = .ok (.getfield 87, 3) := by decide +kernel
theorem dX10_shift_90 : decode cX10_shift 90 = .ok (.iload_n 3, 1) := by decide +kernel
theorem dX10_shift_91 : decode cX10_shift 91 = .ok (.iaload, 1) := by decide +kernel
theorem dX10_shift_92 : decode cX10_shift 92 = .ok (.iload 4, 2) := by decide +kernel
theorem dX10_shift_94 : decode cX10_shift 94 = .ok (.isub, 1) := by decide +kernel
theorem dX10_shift_95 : decode cX10_shift 95 = .ok (.if_icmp .le 6, 3) := by decide +kernel
theorem dX10_shift_98 : decode cX10_shift 98 = .ok (.bipush (-13), 2) := by decide +kernel
theorem dX10_shift_100 : decode cX10_shift 100 = .ok (.ireturn, 1) := by decide +kernel
theorem dX10_shift_101 : decode cX10_shift 101 = .ok (.iconst 0, 1) := by decide +kernel
theorem dX10_shift_102 : decode cX10_shift 102 = .ok (.istore 6, 2) := by decide +kernel
theorem dX10_shift_104 : decode cX10_shift 104 = .ok (.iload 6, 2) := by decide +kernel
theorem dX10_shift_106 : decode cX10_shift 106 = .ok (.iload 5, 2) := by decide +kernel
theorem dX10_shift_108 : decode cX10_shift 108 = .ok (.if_icmp .ge 30, 3) := by decide +kernel
theorem dX10_shift_111 : decode cX10_shift 111 = .ok (.aload_n 0, 1) := by decide +kernel
theorem dX10_shift_112 : decode cX10_shift 112 = .ok (.getfield 94, 3) := by decide +kernel
theorem dX10_shift_115 : decode cX10_shift 115 = .ok (.iload 6, 2) := by decide +kernel
theorem dX10_shift_117 : decode cX10_shift 117 = .ok (.aload_n 0, 1) := by decide +kernel
theorem dX10_shift_118 : decode cX10_shift 118 = .ok (.getfield 90, 3) := by decide +kernel
theorem dX10_shift_121 : decode cX10_shift 121 = .ok (.bipush 60, 2) := by decide +kernel
theorem dX10_shift_123 : decode cX10_shift 123 = .ok (.iload_n 1, 1) := by decide +kernel
theorem dX10_shift_124 : decode cX10_shift 124 = .ok (.imul, 1) := by decide +kernel
theorem dX10_shift_125 : decode cX10_shift 125 = .ok (.iload_n 2, 1) := by decide +kernel
theorem dX10_shift_126 : decode cX10_shift 126 = .ok (.iadd, 1) := by decide +kernel
theorem dX10_shift_127 : decode cX10_shift 127 = .ok (.iload 6, 2) := by decide +kernel
theorem dX10_shift_129 : decode cX10_shift 129 = .ok (.iadd, 1) := by decide +kernel
theorem dX10_shift_130 : decode cX10_shift 130 = .ok (.laload, 1) := by decide +kernel
theorem dX10_shift_131 : decode cX10_shift 131 = .ok (.lastore, 1) := by decide +kernel
theorem dX10_shift_132 : decode cX10_shift 132 = .ok (.iinc 6 1, 3) := by decide +kernel
theorem dX10_shift_135 : decode cX10_shift 135 = .ok (.goto (-31), 3) := by decide +kernel
theorem dX10_shift_138 : decode cX10_shift 138 = .ok (.iconst 0, 1) := by decide +kernel
theorem dX10_shift_139 : decode cX10_shift 139 = .ok (.istore 6, 2) := by decide +kernel
theorem dX10_shift_141 : decode cX10_shift 141 = .ok (.iload 6, 2) := by decide +kernel
theorem dX10_shift_143 : decode cX10_shift 143 = .ok (.iload 5, 2) := by decide +kernel
theorem dX10_shift_145 : decode cX10_shift 145 = .ok (.if_icmp .ge 31, 3) := by decide +kernel
theorem dX10_shift_148 : decode cX10_shift 148 = .ok (.aload_n 0, 1) := by decide +kernel
theorem dX10_shift_149 : decode cX10_shift 149 = .ok (.getfield 90, 3) := by decide +kernel
theorem dX10_shift_152 : decode cX10_shift 152 = .ok (.bipush 60, 2) := by decide +kernel
theorem dX10_shift_154 : decode cX10_shift 154 = .ok (.iload_n 3, 1) := by decide +kernel
theorem dX10_shift_155 : decode cX10_shift 155 = .ok (.imul, 1) := by decide +kernel
theorem dX10_shift_156 : decode cX10_shift 156 = .ok (.iload 4, 2) := by decide +kernel
theorem dX10_shift_158 : decode cX10_shift 158 = .ok (.iadd, 1) := by decide +kernel
theorem dX10_shift_159 : decode cX10_shift 159 = .ok (.iload 6, 2) := by decide +kernel
theorem dX10_shift_161 : decode cX10_shift 161 = .ok (.iadd, 1) := by decide +kernel
theorem dX10_shift_162 : decode cX10_shift 162 = .ok (.aload_n 0, 1) := by decide +kernel
theorem dX10_shift_163 : decode cX10_shift 163 = .ok (.getfield 94, 3) := by decide +kernel
theorem dX10_shift_166 : decode cX10_shift 166 = .ok (.iload 6, 2) := by decide +kernel
theorem dX10_shift_168 : decode cX10_shift 168 = .ok (.laload, 1) := by decide +kernel
theorem dX10_shift_169 : decode cX10_shift 169 = .ok (.lastore, 1) := by decide +kernel
theorem dX10_shift_170 : decode cX10_shift 170 = .ok (.iinc 6 1, 3) := by decide +kernel
theorem dX10_shift_173 : decode cX10_shift 173 = .ok (.goto (-32), 3) := by decide +kernel
theorem dX10_shift_176 : decode cX10_shift 176 = .ok (.iload 5, 2) := by decide +kernel
theorem dX10_shift_178 : decode cX10_shift 178 = .ok (.ireturn, 1) := by decide +kernel
theorem dX10_image_0 : decode cX10_image 0 = .ok (.aload_n 0, 1) := by decide +kernel
theorem dX10_image_1 : decode cX10_image 1 = .ok (.iconst 1, 1) := by decide +kernel
theorem dX10_image_2 : decode cX10_image 2 = .ok (.putfield 357, 3) := by decide +kernel
theorem dX10_image_5 : decode cX10_image 5 = .ok (.iconst 0, 1) := by decide +kernel
theorem dX10_image_6 : decode cX10_image 6 = .ok (.istore_n 1, 1) := by decide +kernel
theorem dX10_image_7 : decode cX10_image 7 = .ok (.iload_n 1, 1) := by decide +kernel
end
section
theorem dX10_image_8 : decode cX10_image 8 = .ok (.bipush 12, 2) := by decide +kernel
theorem dX10_image_10 : decode cX10_image 10 = .ok (.if_icmp .ge 33, 3) := by decide +kernel
theorem dX10_image_13 : decode cX10_image 13 = .ok (.aload_n 0, 1) := by decide +kernel
theorem dX10_image_14 : decode cX10_image 14 = .ok (.getfield 100, 3) := by decide +kernel
theorem dX10_image_17 : decode cX10_image 17 = .ok (.iload_n 1, 1) := by decide +kernel
theorem dX10_image_18 : decode cX10_image 18 = .ok (.aload_n 0, 1) := by decide +kernel
theorem dX10_image_19 : decode cX10_image 19 = .ok (.getfield 15, 3) := by decide +kernel
theorem dX10_image_22 : decode cX10_image 22 = .ok (.iload_n 1, 1) := by decide +kernel
theorem dX10_image_23 : decode cX10_image 23 = .ok (.iaload, 1) := by decide +kernel
theorem dX10_image_24 : decode cX10_image 24 = .ok (.iastore, 1) := by decide +kernel
theorem dX10_image_25 : decode cX10_image 25 = .ok (.aload_n 0, 1) := by decide +kernel
theorem dX10_image_26 : decode cX10_image 26 = .ok (.getfield 103, 3) := by decide +kernel
theorem dX10_image_29 : decode cX10_image 29 = .ok (.iload_n 1, 1) := by decide +kernel
theorem dX10_image_30 : decode cX10_image 30 = .ok (.aload_n 0, 1) := by decide +kernel
theorem dX10_image_31 : decode cX10_image 31 = .ok (.getfield 18, 3) := by decide +kernel
theorem dX10_image_34 : decode cX10_image 34 = .ok (.iload_n 1, 1) := by decide +kernel
theorem dX10_image_35 : decode cX10_image 35 = .ok (.iaload, 1) := by decide +kernel
theorem dX10_image_36 : decode cX10_image 36 = .ok (.iastore, 1) := by decide +kernel
theorem dX10_image_37 : decode cX10_image 37 = .ok (.iinc 1 1, 3) := by decide +kernel
theorem dX10_image_40 : decode cX10_image 40 = .ok (.goto (-33), 3) := by decide +kernel
theorem dX10_image_43 : decode cX10_image 43 = .ok (.aload_n 0, 1) := by decide +kernel
theorem dX10_image_44 : decode cX10_image 44 = .ok (.getfield 97, 3) := by decide +kernel
theorem dX10_image_47 : decode cX10_image 47 = .ok (.iconst 0, 1) := by decide +kernel
theorem dX10_image_48 : decode cX10_image 48 = .ok (.aload_n 0, 1) := by decide +kernel
theorem dX10_image_49 : decode cX10_image 49 = .ok (.getfield 11, 3) := by decide +kernel
theorem dX10_image_52 : decode cX10_image 52 = .ok (.iconst 0, 1) := by decide +kernel
theorem dX10_image_53 : decode cX10_image 53 = .ok (.iaload, 1) := by decide +kernel
theorem dX10_image_54 : decode cX10_image 54 = .ok (.iastore, 1) := by decide +kernel
theorem dX10_image_55 : decode cX10_image 55 = .ok (.aload_n 0, 1) := by decide +kernel
theorem dX10_image_56 : decode cX10_image 56 = .ok (.getfield 97, 3) := by decide +kernel
theorem dX10_image_59 : decode cX10_image 59 = .ok (.iconst 1, 1) := by decide +kernel
theorem dX10_image_60 : decode cX10_image 60 = .ok (.aload_n 0, 1) := by decide +kernel
theorem dX10_image_61 : decode cX10_image 61 = .ok (.getfield 11, 3) := by decide +kernel
theorem dX10_image_64 : decode cX10_image 64 = .ok (.iconst 1, 1) := by decide +kernel
theorem dX10_image_65 : decode cX10_image 65 = .ok (.iaload, 1) := by decide +kernel
theorem dX10_image_66 : decode cX10_image 66 = .ok (.iastore, 1) := by decide +kernel
theorem dX10_image_67 : decode cX10_image 67 = .ok (.aload_n 0, 1) := by decide +kernel
theorem dX10_image_68 : decode cX10_image 68 = .ok (.aload_n 0, 1) := by decide +kernel
theorem dX10_image_69 : decode cX10_image 69 = .ok (.getfield 320, 3) := by decide +kernel
theorem dX10_image_72 : decode cX10_image 72 = .ok (.putfield 361, 3) := by decide +kernel
theorem dX10_image_75 : decode cX10_image 75 = .ok (.iconst 0, 1) := by decide +kernel
theorem dX10_image_76 : decode cX10_image 76 = .ok (.istore_n 1, 1) := by decide +kernel
theorem dX10_image_77 : decode cX10_image 77 = .ok (.iload_n 1, 1) := by decide +kernel
theorem dX10_image_78 : decode cX10_image 78 = .ok (.iconst 4, 1) := by decide +kernel
theorem dX10_image_79 : decode cX10_image 79 = .ok (.if_icmp .ge 55, 3) := by decide +kernel
theorem dX10_image_82 : decode cX10_image 82 = .ok (.aload_n 0, 1) := by decide +kernel
theorem dX10_image_83 : decode cX10_image 83 = .ok (.getfield 106, 3) := by decide +kernel
theorem dX10_image_86 : decode cX10_image 86 = .ok (.iconst 3, 1) := by decide +kernel
theorem dX10_image_87 : decode cX10_image 87 = .ok (.iload_n 1, 1) := by decide +kernel
theorem dX10_image_88 : decode cX10_image 88 = .ok (.imul, 1) := by decide +kernel
theorem dX10_image_89 : decode cX10_image 89 = .ok (.aload_n 0, 1) := by decide +kernel
theorem dX10_image_90 : decode cX10_image 90 = .ok (.getfield 63, 3) := by decide +kernel
theorem dX10_image_93 : decode cX10_image 93 = .ok (.iload_n 1, 1) := by decide +kernel
theorem dX10_image_94 : decode cX10_image 94 = .ok (.iaload, 1) := by decide +kernel
theorem dX10_image_95 : decode cX10_image 95 = .ok (.iastore, 1) := by decide +kernel
theorem dX10_image_96 : decode cX10_image 96 = .ok (.aload_n 0, 1) := by decide +kernel
theorem dX10_image_97 : decode cX10_image 97 = .ok (.getfield 106, 3) := by decide +kernel
theorem dX10_image_100 : decode cX10_image 100 = .ok (.iconst 3, 1) := by decide +kernel
theorem dX10_image_101 : decode cX10_image 101 = .ok (.iload_n 1, 1) := by decide +kernel
theorem dX10_image_102 : decode cX10_image 102 = .ok (.imul, 1) := by decide +kernel
theorem dX10_image_103 : decode cX10_image 103 = .ok (.iconst 1, 1) := by decide +kernel
theorem dX10_image_104 : decode cX10_image 104 = .ok (.iadd, 1) := by decide +kernel
theorem dX10_image_105 : decode cX10_image 105 = .ok (.aload_n 0, 1) := by decide +kernel
theorem dX10_image_106 : decode cX10_image 106 = .ok (.getfield 66, 3) := by decide +kernel
theorem dX10_image_109 : decode cX10_image 109 = .ok (.iload_n 1, 1) := by decide +kernel
theorem dX10_image_110 : decode cX10_image 110 = .ok (.iaload, 1) := by decide +kernel
theorem dX10_image_111 : decode cX10_image 111 = .ok (.iastore, 1) := by decide +kernel
theorem dX10_image_112 : decode cX10_image 112 = .ok (.aload_n 0, 1) := by decide +kernel
theorem dX10_image_113 : decode cX10_image 113 = .ok (.getfield 106, 3) := by decide +kernel
theorem dX10_image_116 : decode cX10_image 116 = .ok (.iconst 3, 1) := by decide +kernel
theorem dX10_image_117 : decode cX10_image 117 = .ok (.iload_n 1, 1) := by decide +kernel
theorem dX10_image_118 : decode cX10_image 118 = .ok (.imul, 1) := by decide +kernel
theorem dX10_image_119 : decode cX10_image 119 = .ok (.iconst 2, 1) := by decide +kernel
theorem dX10_image_120 : decode cX10_image 120 = .ok (.iadd, 1) := by decide +kernel
theorem dX10_image_121 : decode cX10_image 121 = .ok (.aload_n 0, 1) := by decide +kernel
theorem dX10_image_122 : decode cX10_image 122 = .ok (.getfield 69, 3) := by decide +kernel
theorem dX10_image_125 : decode cX10_image 125 = .ok (.iload_n 1, 1) := by decide +kernel
theorem dX10_image_126 : decode cX10_image 126 = .ok (.iaload, 1) := by decide +kernel
theorem dX10_image_127 : decode cX10_image 127 = .ok (.iastore, 1) := by decide +kernel
theorem dX10_image_128 : decode cX10_image 128 = .ok (.iinc 1 1, 3) := by decide +kernel
theorem dX10_image_131 : decode cX10_image 131 = .ok (.goto (-54), 3) := by decide +kernel
theorem dX10_image_134 : decode cX10_image 134 = .ok (.aload_n 0, 1) := by decide +kernel
theorem dX10_image_135 : decode cX10_image 135 = .ok (.aload_n 0, 1) := by decide +kernel
theorem dX10_image_136 : decode cX10_image 136 = .ok (.getfield 328, 3) := by decide +kernel
theorem dX10_image_139 : decode cX10_image 139 = .ok (.putfield 364, 3) := by decide +kernel
theorem dX10_image_142 : decode cX10_image 142 = .ok (.aload_n 0, 1) := by decide +kernel
theorem dX10_image_143 : decode cX10_image 143 = .ok (.aload_n 0, 1) := by decide +kernel
theorem dX10_image_144 : decode cX10_image 144 = .ok (.getfield 345, 3) := by decide +kernel
theorem dX10_image_147 : decode cX10_image 147 = .ok (.putfield 367, 3) := by decide +kernel
theorem dX10_image_150 : decode cX10_image 150 = .ok (.iconst 0, 1) := by decide +kernel
theorem dX10_image_151 : decode cX10_image 151 = .ok (.istore_n 1, 1) := by decide +kernel
theorem dX10_image_152 : decode cX10_image 152 = .ok (.iload_n 1, 1) := by decide +kernel
theorem dX10_image_153 : decode cX10_image 153 = .ok (.bipush 8, 2) := by decide +kernel
theorem dX10_image_155 : decode cX10_image 155 = .ok (.if_icmp .ge 69, 3) := by decide +kernel
theorem dX10_image_158 : decode cX10_image 158 = .ok (.aload_n 0, 1) := by decide +kernel
theorem dX10_image_159 : decode cX10_image 159 = .ok (.getfield 109, 3) := by decide +kernel
theorem dX10_image_162 : decode cX10_image 162 = .ok (.iconst 2, 1) := by decide +kernel
theorem dX10_image_163 : decode cX10_image 163 = .ok (.iload_n 1, 1) := by decide +kernel
theorem dX10_image_164 : decode cX10_image 164 = .ok (.imul, 1) := by decide +kernel
theorem dX10_image_165 : decode cX10_image 165 = .ok (.aload_n 0, 1) := by decide +kernel
theorem dX10_image_166 : decode cX10_image 166 = .ok (.getfield 72, 3) := by decide +kernel
theorem dX10_image_169 : decode cX10_image 169 = .ok (.iload_n 1, 1) := by decide +kernel
theorem dX10_image_170 : decode cX10_image 170 = .ok (.iaload, 1) := by decide +kernel
theorem dX10_image_171 : decode cX10_image 171 = .ok (.iastore, 1) := by decide +kernel
theorem dX10_image_172 : decode cX10_image 172 = .ok (.aload_n 0, 1) := by decide +kernel
theorem dX10_image_173 : decode cX10_image 173 = .ok (.getfield 109, 3) := by decide +kernel
theorem dX10_image_176 : decode cX10_image 176 = .ok (.iconst 2, 1) := by decide +kernel
theorem dX10_image_177 : decode cX10_image 177 = .ok (.iload_n 1, 1) := by decide +kernel
theorem dX10_image_178 : decode cX10_image 178 = .ok (.imul, 1) := by decide +kernel
theorem dX10_image_179 : decode cX10_image 179 = .ok (.iconst 1, 1) := by decide +kernel
theorem dX10_image_180 : decode cX10_image 180 = .ok (.iadd, 1) := by decide +kernel
theorem dX10_image_181 : decode cX10_image 181 = .ok (.aload_n 0, 1) := by decide +kernel
theorem dX10_image_182 : decode cX10_image 182 = .ok (.getfield 75, 3) := by decide +kernel
theorem dX10_image_185 : decode cX10_image 185 = .ok (.iload_n 1, 1) := by decide +kernel
theorem dX10_image_186 : decode cX10_image 186 = .ok (.iaload, 1) := by decide +kernel
theorem dX10_image_187 : decode cX10_image 187 = .ok (.iastore, 1) := by decide +kernel
theorem dX10_image_188 : decode cX10_image 188 = .ok (.aload_n 0, 1) := by decide +kernel
theorem dX10_image_189 : decode cX10_image 189 = .ok (.getfield 112, 3) := by decide +kernel
theorem dX10_image_192 : decode cX10_image 192 = .ok (.iconst 2, 1) := by decide +kernel
theorem dX10_image_193 : decode cX10_image 193 = .ok (.iload_n 1, 1) := by decide +kernel
theorem dX10_image_194 : decode cX10_image 194 = .ok (.imul, 1) := by decide +kernel
theorem dX10_image_195 : decode cX10_image 195 = .ok (.aload_n 0, 1) := by decide +kernel
theorem dX10_image_196 : decode cX10_image 196 = .ok (.getfield 78, 3) := by decide +kernel
theorem dX10_image_199 : decode cX10_image 199 = .ok (.iload_n 1, 1) := by decide +kernel
theorem dX10_image_200 : decode cX10_image 200 = .ok (.iaload, 1) := by decide +kernel
theorem dX10_image_201 : decode cX10_image 201 = .ok (.iastore, 1) := by decide +kernel
theorem dX10_image_202 : decode cX10_image 202 = .ok (.aload_n 0, 1) := by decide +kernel
theorem dX10_image_203 : decode cX10_image 203 = .ok (.getfield 112, 3) := by decide +kernel
theorem dX10_image_206 : decode cX10_image 206 = .ok (.iconst 2, 1) := by decide +kernel
theorem dX10_image_207 : decode cX10_image 207 = .ok (.iload_n 1, 1) := by decide +kernel
theorem dX10_image_208 : decode cX10_image 208 = .ok (.imul, 1) := by decide +kernel
theorem dX10_image_209 : decode cX10_image 209 = .ok (.iconst 1, 1) := by decide +kernel
theorem dX10_image_210 : decode cX10_image 210 = .ok (.iadd, 1) := by decide +kernel
theorem dX10_image_211 : decode cX10_image 211 = .ok (.aload_n 0, 1) := by decide +kernel
theorem dX10_image_212 : decode cX10_image 212 = .ok (.getfield 81, 3) := by decide +kernel
theorem dX10_image_215 : decode cX10_image 215 = .ok (.iload_n 1, 1) := by decide +kernel
theorem dX10_image_216 : decode cX10_image 216 = .ok (.iaload, 1) := by decide +kernel
theorem dX10_image_217 : decode cX10_image 217 = .ok (.iastore, 1) := by decide +kernel
theorem dX10_image_218 : decode cX10_image 218 = .ok (.iinc 1 1, 3) := by decide +kernel
theorem dX10_image_221 : decode cX10_image 221 = .ok (.goto (-69), 3) := by decide +kernel
theorem dX10_image_224 : decode cX10_image 224 = .ok (.aload_n 0, 1) := by decide +kernel
theorem dX10_image_225 : decode cX10_image 225 = .ok (.getfield 11, 3) := by decide +kernel
theorem dX10_image_228 : decode cX10_image 228 = .ok (.iconst 0, 1) := by decide +kernel
theorem dX10_image_229 : decode cX10_image 229 = .ok (.iaload, 1) := by decide +kernel
theorem dX10_image_230 : decode cX10_image 230 = .ok (.aload_n 0, 1) := by decide +kernel
theorem dX10_image_231 : decode cX10_image 231 = .ok (.getfield 11, 3) := by decide +kernel
theorem dX10_image_234 : decode cX10_image 234 = .ok (.iconst 1, 1) := by decide +kernel
theorem dX10_image_235 : decode cX10_image 235 = .ok (.iaload, 1) := by decide +kernel
theorem dX10_image_236 : decode cX10_image 236 = .ok (.iadd, 1) := by decide +kernel
theorem dX10_image_237 : decode cX10_image 237 = .ok (.ireturn, 1) := by decide +kernel
theorem dX10_undo_0 : decode cX10_undo 0 = .ok (.aload_n 0, 1) := by decide +kernel
theorem dX10_undo_1 : decode cX10_undo 1 = .ok (.getfield 357, 3) := by decide +kernel
theorem dX10_undo_4 : decode cX10_undo 4 = .ok (.ifCond .ne 6, 3) := by decide +kernel
theorem dX10_undo_7 : decode cX10_undo 7 = .ok (.bipush (-3), 2) := by decide +kernel
theorem dX10_undo_9 : decode cX10_undo 9 = .ok (.ireturn, 1) := by decide +kernel
theorem dX10_undo_10 : decode cX10_undo 10 = .ok (.iconst 0, 1) := by decide +kernel
theorem dX10_undo_11 : decode cX10_undo 11 = .ok (.istore_n 1, 1) := by decide +kernel
theorem dX10_undo_12 : decode cX10_undo 12 = .ok (.iload_n 1, 1) := by decide +kernel
theorem dX10_undo_13 : decode cX10_undo 13 = .ok (.bipush 12, 2) := by decide +kernel
theorem dX10_undo_15 : decode cX10_undo 15 = .ok (.if_icmp .ge 33, 3) := by decide +kernel
theorem dX10_undo_18 : decode cX10_undo 18 = .ok (.aload_n 0, 1) := by decide +kernel
theorem dX10_undo_19 : decode cX10_undo 19 = .ok (.getfield 15, 3) := by decide +kernel
theorem dX10_undo_22 : decode cX10_undo 22 = .ok (.iload_n 1, 1) := by decide +kernel
theorem dX10_undo_23 : decode cX10_undo 23 = .ok (.aload_n 0, 1) := by decide +kernel
theorem dX10_undo_24 : decode cX10_undo 24 = .ok (.getfield 100, 3) := by decide +kernel
theorem dX10_undo_27 : decode cX10_undo 27 = .ok (.iload_n 1, 1) := by decide +kernel
theorem dX10_undo_28 : decode cX10_undo 28 = .ok (.iaload, 1) := by decide +kernel
theorem dX10_undo_29 : decode cX10_undo 29 = .ok (.iastore, 1) := by decide +kernel
theorem dX10_undo_30 : decode cX10_undo 30 = .ok (.aload_n 0, 1) := by decide +kernel
theorem dX10_undo_31 : decode cX10_undo 31 = .ok (.getfield 18, 3) := by decide +kernel
theorem dX10_undo_34 : decode cX10_undo 34 = .ok (.iload_n 1, 1) := by decide +kernel
theorem dX10_undo_35 : decode cX10_undo 35 = .ok (.aload_n 0, 1) := by decide +kernel
theorem dX10_undo_36 : decode cX10_undo 36 = .ok (.getfield 103, 3) := by decide +kernel
theorem dX10_undo_39 : decode cX10_undo 39 = .ok (.iload_n 1, 1) := by decide +kernel
theorem dX10_undo_40 : decode cX10_undo 40 = .ok (.iaload, 1) := by decide +kernel
theorem dX10_undo_41 : decode cX10_undo 41 = .ok (.iastore, 1) := by decide +kernel
theorem dX10_undo_42 : decode cX10_undo 42 = .ok (.iinc 1 1, 3) := by decide +kernel
theorem dX10_undo_45 : decode cX10_undo 45 = .ok (.goto (-33), 3) := by decide +kernel
theorem dX10_undo_48 : decode cX10_undo 48 = .ok (.aload_n 0, 1) := by decide +kernel
theorem dX10_undo_49 : decode cX10_undo 49 = .ok (.getfield 11, 3) := by decide +kernel
theorem dX10_undo_52 : decode cX10_undo 52 = .ok (.iconst 0, 1) := by decide +kernel
theorem dX10_undo_53 : decode cX10_undo 53 = .ok (.aload_n 0, 1) := by decide +kernel
theorem dX10_undo_54 : decode cX10_undo 54 = .ok (.getfield 97, 3) := by decide +kernel
theorem dX10_undo_57 : decode cX10_undo 57 = .ok (.iconst 0, 1) := by decide +kernel
theorem dX10_undo_58 : decode cX10_undo 58 = .ok (.iaload, 1) := by decide +kernel
theorem dX10_undo_59 : decode cX10_undo 59 = .ok (.iastore, 1) := by decide +kernel
theorem dX10_undo_60 : decode cX10_undo 60 = .ok (.aload_n 0, 1) := by decide +kernel
theorem dX10_undo_61 : decode cX10_undo 61 = .ok (.getfield 11, 3) := by decide +kernel
theorem dX10_undo_64 : decode cX10_undo 64 = .ok (.iconst 1, 1) := by decide +kernel
theorem dX10_undo_65 : decode cX10_undo 65 = .ok (.aload_n 0, 1) := by decide +kernel
theorem dX10_undo_66 : decode cX10_undo 66 = .ok (.getfield 97, 3) := by decide +kernel
theorem dX10_undo_69 : decode cX10_undo 69 = .ok (.iconst 1, 1) := by decide +kernel
theorem dX10_undo_70 : decode cX10_undo 70 = .ok (.iaload, 1) := by decide +kernel
theorem dX10_undo_71 : decode cX10_undo 71 = .ok (.iastore, 1) := by decide +kernel
theorem dX10_undo_72 : decode cX10_undo 72 = .ok (.aload_n 0, 1) := by decide +kernel
theorem dX10_undo_73 : decode cX10_undo 73 = .ok (.aload_n 0, 1) := by decide +kernel
theorem dX10_undo_74 : decode cX10_undo 74 = .ok (.getfield 361, 3) := by decide +kernel
theorem dX10_undo_77 : decode cX10_undo 77 = .ok (.putfield 320, 3) := by decide +kernel
theorem dX10_undo_80 : decode cX10_undo 80 = .ok (.iconst 0, 1) := by decide +kernel
theorem dX10_undo_81 : decode cX10_undo 81 = .ok (.istore_n 1, 1) := by decide +kernel
theorem dX10_undo_82 : decode cX10_undo 82 = .ok (.iload_n 1, 1) := by decide +kernel
theorem dX10_undo_83 : decode cX10_undo 83 = .ok (.iconst 4, 1) := by decide +kernel
theorem dX10_undo_84 : decode cX10_undo 84 = .ok (.if_icmp .ge 55, 3) := by decide +kernel
theorem dX10_undo_87 : decode cX10_undo 87 = .ok (.aload_n 0, 1) := by decide +kernel
theorem dX10_undo_88 : decode cX10_undo 88 = .ok (.getfield 63, 3) := by decide +kernel
theorem dX10_undo_91 : decode cX10_undo 91 = .ok (.iload_n 1, 1) := by decide +kernel
theorem dX10_undo_92 : decode cX10_undo 92 = .ok (.aload_n 0, 1) := by decide +kernel
theorem dX10_undo_93 : decode cX10_undo 93 = .ok (.getfield 106, 3) := by decide +kernel
theorem dX10_undo_96 : decode cX10_undo 96 = .ok (.iconst 3, 1) := by decide +kernel
theorem dX10_undo_97 : decode cX10_undo 97 = .ok (.iload_n 1, 1) := by decide +kernel
theorem dX10_undo_98 : decode cX10_undo 98 = .ok (.imul, 1) := by decide +kernel
theorem dX10_undo_99 : decode cX10_undo 99 = .ok (.iaload, 1) := by decide +kernel
theorem dX10_undo_100 : decode cX10_undo 100 = .ok (.iastore, 1) := by decide +kernel
theorem dX10_undo_101 : decode cX10_undo 101 = .ok (.aload_n 0, 1) := by decide +kernel
theorem dX10_undo_102 : decode cX10_undo 102 = .ok (.getfield 66, 3) := by decide +kernel
theorem dX10_undo_105 : decode cX10_undo 105 = .ok (.iload_n 1, 1) := by decide +kernel
theorem dX10_undo_106 : decode cX10_undo 106 = .ok (.aload_n 0, 1) := by decide +kernel
theorem dX10_undo_107 : decode cX10_undo 107 = .ok (.getfield 106, 3) := by decide +kernel
theorem dX10_undo_110 : decode cX10_undo 110 = .ok (.iconst 3, 1) := by decide +kernel
theorem dX10_undo_111 : decode cX10_undo 111 = .ok (.iload_n 1, 1) := by decide +kernel
theorem dX10_undo_112 : decode cX10_undo 112 = .ok (.imul, 1) := by decide +kernel
theorem dX10_undo_113 : decode cX10_undo 113 = .ok (.iconst 1, 1) := by decide +kernel
theorem dX10_undo_114 : decode cX10_undo 114 = .ok (.iadd, 1) := by decide +kernel
theorem dX10_undo_115 : decode cX10_undo 115 = .ok (.iaload, 1) := by decide +kernel
theorem dX10_undo_116 : decode cX10_undo 116 = .ok (.iastore, 1) := by decide +kernel
theorem dX10_undo_117 : decode cX10_undo 117 = .ok (.aload_n 0, 1) := by decide +kernel
theorem dX10_undo_118 : decode cX10_undo 118 = .ok (.getfield 69, 3) := by decide +kernel
theorem dX10_undo_121 : decode cX10_undo 121 = .ok (.iload_n 1, 1) := by decide +kernel
theorem dX10_undo_122 : decode cX10_undo 122 = .ok (.aload_n 0, 1) := by decide +kernel
theorem dX10_undo_123 : decode cX10_undo 123 = .ok (.getfield 106, 3) := by decide +kernel
theorem dX10_undo_126 : decode cX10_undo 126 = .ok (.iconst 3, 1) := by decide +kernel
theorem dX10_undo_127 : decode cX10_undo 127 = .ok (.iload_n 1, 1) := by decide +kernel
theorem dX10_undo_128 : decode cX10_undo 128 = .ok (.imul, 1) := by decide +kernel
theorem dX10_undo_129 : decode cX10_undo 129 = .ok (.iconst 2, 1) := by decide +kernel
theorem dX10_undo_130 : decode cX10_undo 130 = .ok (.iadd, 1) := by decide +kernel
theorem dX10_undo_131 : decode cX10_undo 131 = .ok (.iaload, 1) := by decide +kernel
theorem dX10_undo_132 : decode cX10_undo 132 = .ok (.iastore, 1) := by decide +kernel
theorem dX10_undo_133 : decode cX10_undo 133 = .ok (.iinc 1 1, 3) := by decide +kernel
theorem dX10_undo_136 : decode cX10_undo 136 = .ok (.goto (-54), 3) := by decide +kernel
theorem dX10_undo_139 : decode cX10_undo 139 = .ok (.aload_n 0, 1) := by decide +kernel
theorem dX10_undo_140 : decode cX10_undo 140 = .ok (.aload_n 0, 1) := by decide +kernel
theorem dX10_undo_141 : decode cX10_undo 141 = .ok (.getfield 364, 3) := by decide +kernel
theorem dX10_undo_144 : decode cX10_undo 144 = .ok (.putfield 328, 3) := by decide +kernel
theorem dX10_undo_147 : decode cX10_undo 147 = .ok (.aload_n 0, 1) := by decide +kernel
theorem dX10_undo_148 : decode cX10_undo 148 = .ok (.aload_n 0, 1) := by decide +kernel
theorem dX10_undo_149 : decode cX10_undo 149 = .ok (.getfield 367, 3) := by decide +kernel
theorem dX10_undo_152 : decode cX10_undo 152 = .ok (.putfield 345, 3) := by decide +kernel
theorem dX10_undo_155 : decode cX10_undo 155 = .ok (.iconst 0, 1) := by decide +kernel
theorem dX10_undo_156 : decode cX10_undo 156 = .ok (.istore_n 1, 1) := by decide +kernel
theorem dX10_undo_157 : decode cX10_undo 157 = .ok (.iload_n 1, 1) := by decide +kernel
theorem dX10_undo_158 : decode cX10_undo 158 = .ok (.bipush 8, 2) := by decide +kernel
theorem dX10_undo_160 : decode cX10_undo 160 = .ok (.if_icmp .ge 69, 3) := by decide +kernel
theorem dX10_undo_163 : decode cX10_undo 163 = .ok (.aload_n 0, 1) := by decide +kernel
theorem dX10_undo_164 : decode cX10_undo 164 = .ok (.getfield 72, 3) := by decide +kernel
theorem dX10_undo_167 : decode cX10_undo 167 = .ok (.iload_n 1, 1) := by decide +kernel
theorem dX10_undo_168 : decode cX10_undo 168 = .ok (.aload_n 0, 1) := by decide +kernel
theorem dX10_undo_169 : decode cX10_undo 169 = .ok (.getfield 109, 3) := by decide +kernel
theorem dX10_undo_172 : decode cX10_undo 172 = .ok (.iconst 2, 1) := by decide +kernel
theorem dX10_undo_173 : decode cX10_undo 173 = .ok (.iload_n 1, 1) := by decide +kernel
theorem dX10_undo_174 : decode cX10_undo 174 = .ok (.imul, 1) := by decide +kernel
theorem dX10_undo_175 : decode cX10_undo 175 = .ok (.iaload, 1) := by decide +kernel
theorem dX10_undo_176 : decode cX10_undo 176 = .ok (.iastore, 1) := by decide +kernel
theorem dX10_undo_177 : decode cX10_undo 177 = .ok (.aload_n 0, 1) := by decide +kernel
theorem dX10_undo_178 : decode cX10_undo 178 = .ok (.getfield 75, 3) := by decide +kernel
theorem dX10_undo_181 : decode cX10_undo 181 = .ok (.iload_n 1, 1) := by decide +kernel
theorem dX10_undo_182 : decode cX10_undo 182 = .ok (.aload_n 0, 1) := by decide +kernel
theorem dX10_undo_183 : decode cX10_undo 183 = .ok (.getfield 109, 3) := by decide +kernel
theorem dX10_undo_186 : decode cX10_undo 186 = .ok (.iconst 2, 1) := by decide +kernel
theorem dX10_undo_187 : decode cX10_undo 187 = .ok (.iload_n 1, 1) := by decide +kernel
theorem dX10_undo_188 : decode cX10_undo 188 = .ok (.imul, 1) := by decide +kernel
theorem dX10_undo_189 : decode cX10_undo 189 = .ok (.iconst 1, 1) := by decide +kernel
theorem dX10_undo_190 : decode cX10_undo 190 = .ok (.iadd, 1) := by decide +kernel
theorem dX10_undo_191 : decode cX10_undo 191 = .ok (.iaload, 1) := by decide +kernel
theorem dX10_undo_192 : decode cX10_undo 192 = .ok (.iastore, 1) := by decide +kernel
theorem dX10_undo_193 : decode cX10_undo 193 = .ok (.aload_n 0, 1) := by decide +kernel
theorem dX10_undo_194 : decode cX10_undo 194 = .ok (.getfield 78, 3) := by decide +kernel
theorem dX10_undo_197 : decode cX10_undo 197 = .ok (.iload_n 1, 1) := by decide +kernel
theorem dX10_undo_198 : decode cX10_undo 198 = .ok (.aload_n 0, 1) := by decide +kernel
theorem dX10_undo_199 : decode cX10_undo 199 = .ok (.getfield 112, 3) := by decide +kernel
theorem dX10_undo_202 : decode cX10_undo 202 = .ok (.iconst 2, 1) := by decide +kernel
theorem dX10_undo_203 : decode cX10_undo 203 = .ok (.iload_n 1, 1) := by decide +kernel
theorem dX10_undo_204 : decode cX10_undo 204 = .ok (.imul, 1) := by decide +kernel
theorem dX10_undo_205 : decode cX10_undo 205 = .ok (.iaload, 1) := by decide +kernel
theorem dX10_undo_206 : decode cX10_undo 206 = .ok (.iastore, 1) := by decide +kernel
theorem dX10_undo_207 : decode cX10_undo 207 = .ok (.aload_n 0, 1) := by decide +kernel
theorem dX10_undo_208 : decode cX10_undo 208 = .ok (.getfield 81, 3) := by decide +kernel
theorem dX10_undo_211 : decode cX10_undo 211 = .ok (.iload_n 1, 1) := by decide +kernel
theorem dX10_undo_212 : decode cX10_undo 212 = .ok (.aload_n 0, 1) := by decide +kernel
theorem dX10_undo_213 : decode cX10_undo 213 = .ok (.getfield 112, 3) := by decide +kernel
theorem dX10_undo_216 : decode cX10_undo 216 = .ok (.iconst 2, 1) := by decide +kernel
theorem dX10_undo_217 : decode cX10_undo 217 = .ok (.iload_n 1, 1) := by decide +kernel
theorem dX10_undo_218 : decode cX10_undo 218 = .ok (.imul, 1) := by decide +kernel
theorem dX10_undo_219 : decode cX10_undo 219 = .ok (.iconst 1, 1) := by decide +kernel
theorem dX10_undo_220 : decode cX10_undo 220 = .ok (.iadd, 1) := by decide +kernel
theorem dX10_undo_221 : decode cX10_undo 221 = .ok (.iaload, 1) := by decide +kernel
theorem dX10_undo_222 : decode cX10_undo 222 = .ok (.iastore, 1) := by decide +kernel
theorem dX10_undo_223 : decode cX10_undo 223 = .ok (.iinc 1 1, 3) := by decide +kernel
theorem dX10_undo_226 : decode cX10_undo 226 = .ok (.goto (-69), 3) := by decide +kernel
theorem dX10_undo_229 : decode cX10_undo 229 = .ok (.aload_n 0, 1) := by decide +kernel
theorem dX10_undo_230 : decode cX10_undo 230 = .ok (.iconst 0, 1) := by decide +kernel
theorem dX10_undo_231 : decode cX10_undo 231 = .ok (.putfield 132, 3) := by decide +kernel
theorem dX10_undo_234 : decode cX10_undo 234 = .ok (.aload_n 0, 1) := by decide +kernel
theorem dX10_undo_235 : decode cX10_undo 235 = .ok (.getfield 11, 3) := by decide +kernel
theorem dX10_undo_238 : decode cX10_undo 238 = .ok (.iconst 0, 1) := by decide +kernel
theorem dX10_undo_239 : decode cX10_undo 239 = .ok (.iaload, 1) := by decide +kernel
theorem dX10_undo_240 : decode cX10_undo 240 = .ok (.aload_n 0, 1) := by decide +kernel
theorem dX10_undo_241 : decode cX10_undo 241 = .ok (.getfield 11, 3) := by decide +kernel
theorem dX10_undo_244 : decode cX10_undo 244 = .ok (.iconst 1, 1) := by decide +kernel
theorem dX10_undo_245 : decode cX10_undo 245 = .ok (.iaload, 1) := by decide +kernel
theorem dX10_undo_246 : decode cX10_undo 246 = .ok (.iadd, 1) := by decide +kernel
theorem dX10_undo_247 : decode cX10_undo 247 = .ok (.ireturn, 1) := by decide +kernel
theorem dX10_count_0 : decode cX10_count 0 = .ok (.iload_n 1, 1) := by decide +kernel
theorem dX10_count_1 : decode cX10_count 1 = .ok (.tableswitch 60 0 4 #[35, 40, 45, 50, 55], 35) := by decide +kernel
theorem dX10_count_36 : decode cX10_count 36 = .ok (.aload_n 0, 1) := by decide +kernel
theorem dX10_count_37 : decode cX10_count 37 = .ok (.getfield 320, 3) := by decide +kernel
theorem dX10_count_40 : decode cX10_count 40 = .ok (.ireturn, 1) := by decide +kernel
theorem dX10_count_41 : decode cX10_count 41 = .ok (.aload_n 0, 1) := by decide +kernel
theorem dX10_count_42 : decode cX10_count 42 = .ok (.getfield 328, 3) := by decide +kernel
theorem dX10_count_45 : decode cX10_count 45 = .ok (.ireturn, 1) := by decide +kernel
theorem dX10_count_46 : decode cX10_count 46 = .ok (.aload_n 0, 1) := by decide +kernel
theorem dX10_count_47 : decode cX10_count 47 = .ok (.getfield 345, 3) := by decide +kernel
theorem dX10_count_50 : decode cX10_count 50 = .ok (.ireturn, 1) := by decide +kernel
theorem dX10_count_51 : decode cX10_count 51 = .ok (.aload_n 0, 1) := by decide +kernel
theorem dX10_count_52 : decode cX10_count 52 = .ok (.getfield 174, 3) := by decide +kernel
theorem dX10_count_55 : decode cX10_count 55 = .ok (.ireturn, 1) := by decide +kernel
theorem dX10_count_56 : decode cX10_count 56 = .ok (.aload_n 0, 1) := by decide +kernel
theorem dX10_count_57 : decode cX10_count 57 = .ok (.getfield 132, 3) := by decide +kernel
theorem dX10_count_60 : decode cX10_count 60 = .ok (.ireturn, 1) := by decide +kernel
theorem dX10_count_61 : decode cX10_count 61 = .ok (.bipush (-2), 2) := by decide +kernel
theorem dX10_count_63 : decode cX10_count 63 = .ok (.ireturn, 1) := by decide +kernel
theorem dL_law_0 : decode cL_law 0 = .ok (.new 7, 3) := by decide +kernel
theorem dL_law_3 : decode cL_law 3 = .ok (.dup, 1) := by decide +kernel
theorem dL_law_4 : decode cL_law 4 = .ok (.invokespecial 9, 3) := by decide +kernel
theorem dL_law_7 : decode cL_law 7 = .ok (.astore_n 1, 1) := by decide +kernel
theorem dL_law_8 : decode cL_law 8 = .ok (.new 10, 3) := by decide +kernel
theorem dL_law_11 : decode cL_law 11 = .ok (.dup, 1) := by decide +kernel
theorem dL_law_12 : decode cL_law 12 = .ok (.invokespecial 12, 3) := by decide +kernel
theorem dL_law_15 : decode cL_law 15 = .ok (.astore_n 2, 1) := by decide +kernel
theorem dL_law_16 : decode cL_law 16 = .ok (.iconst 0, 1) := by decide +kernel
theorem dL_law_17 : decode cL_law 17 = .ok (.istore_n 3, 1) := by decide +kernel
theorem dL_law_18 : decode cL_law 18 = .ok (.iload_n 3, 1) := by decide +kernel
theorem dL_law_19 : decode cL_law 19 = .ok (.aload_n 0, 1) := by decide +kernel
theorem dL_law_20 : decode cL_law 20 = .ok (.arraylength, 1) := by decide +kernel
theorem dL_law_21 : decode cL_law 21 = .ok (.bipush 7, 2) := by decide +kernel
theorem dL_law_23 : decode cL_law 23 = .ok (.isub, 1) := by decide +kernel
theorem dL_law_24 : decode cL_law 24 = .ok (.if_icmp .gt 1472, 3) := by decide +kernel
theorem dL_law_27 : decode cL_law 27 = .ok (.aload_n 0, 1) := by decide +kernel
theorem dL_law_28 : decode cL_law 28 = .ok (.iload_n 3, 1) := by decide +kernel
theorem dL_law_29 : decode cL_law 29 = .ok (.iaload, 1) := by decide +kernel
theorem dL_law_30 : decode cL_law 30 = .ok (.bipush 63, 2) := by decide +kernel
theorem dL_law_32 : decode cL_law 32 = .ok (.iand, 1) := by decide +kernel
theorem dL_law_33 : decode cL_law 33 = .ok (.tableswitch 1457 0 34 #[155, 198, 231, 254, 277, 300, 313, 336, 349, 392, 425, 478, 521, 584, 659, 713, 757, 800, 843, 866, 909, 962, 1016, 1050, 1083, 1106, 1139, 1152, 1195, 1208, 1221, 1244, 1287, 1360, 1394], 155) := by decide +kernel
theorem dL_law_188 : decode cL_law 188 = .ok (.aload_n 1, 1) := by decide +kernel
theorem dL_law_189 : decode cL_law 189 = .ok (.aload_n 0, 1) := by decide +kernel
theorem dL_law_190 : decode cL_law 190 = .ok (.iload_n 3, 1) := by decide +kernel
theorem dL_law_191 : decode cL_law 191 = .ok (.iconst 1, 1) := by decide +kernel
theorem dL_law_192 : decode cL_law 192 = .ok (.iadd, 1) := by decide +kernel
theorem dL_law_193 : decode cL_law 193 = .ok (.iaload, 1) := by decide +kernel
theorem dL_law_194 : decode cL_law 194 = .ok (.aload_n 0, 1) := by decide +kernel
theorem dL_law_195 : decode cL_law 195 = .ok (.iload_n 3, 1) := by decide +kernel
theorem dL_law_196 : decode cL_law 196 = .ok (.iconst 2, 1) := by decide +kernel
theorem dL_law_197 : decode cL_law 197 = .ok (.iadd, 1) := by decide +kernel
theorem dL_law_198 : decode cL_law 198 = .ok (.iaload, 1) := by decide +kernel
theorem dL_law_199 : decode cL_law 199 = .ok (.aload_n 0, 1) := by decide +kernel
theorem dL_law_200 : decode cL_law 200 = .ok (.iload_n 3, 1) := by decide +kernel
theorem dL_law_201 : decode cL_law 201 = .ok (.iconst 3, 1) := by decide +kernel
theorem dL_law_202 : decode cL_law 202 = .ok (.iadd, 1) := by decide +kernel
theorem dL_law_203 : decode cL_law 203 = .ok (.iaload, 1) := by decide +kernel
theorem dL_law_204 : decode cL_law 204 = .ok (.invokevirtual 13, 3) := by decide +kernel
theorem dL_law_207 : decode cL_law 207 = .ok (.aload_n 2, 1) := by decide +kernel
theorem dL_law_208 : decode cL_law 208 = .ok (.aload_n 0, 1) := by decide +kernel
theorem dL_law_209 : decode cL_law 209 = .ok (.iload_n 3, 1) := by decide +kernel
theorem dL_law_210 : decode cL_law 210 = .ok (.iconst 1, 1) := by decide +kernel
theorem dL_law_211 : decode cL_law 211 = .ok (.iadd, 1) := by decide +kernel
theorem dL_law_212 : decode cL_law 212 = .ok (.iaload, 1) := by decide +kernel
theorem dL_law_213 : decode cL_law 213 = .ok (.aload_n 0, 1) := by decide +kernel
theorem dL_law_214 : decode cL_law 214 = .ok (.iload_n 3, 1) := by decide +kernel
theorem dL_law_215 : decode cL_law 215 = .ok (.iconst 2, 1) := by decide +kernel
theorem dL_law_216 : decode cL_law 216 = .ok (.iadd, 1) := by decide +kernel
theorem dL_law_217 : decode cL_law 217 = .ok (.iaload, 1) := by decide +kernel
theorem dL_law_218 : decode cL_law 218 = .ok (.aload_n 0, 1) := by decide +kernel
theorem dL_law_219 : decode cL_law 219 = .ok (.iload_n 3, 1) := by decide +kernel
theorem dL_law_220 : decode cL_law 220 = .ok (.iconst 3, 1) := by decide +kernel
theorem dL_law_221 : decode cL_law 221 = .ok (.iadd, 1) := by decide +kernel
theorem dL_law_222 : decode cL_law 222 = .ok (.iaload, 1) := by decide +kernel
theorem dL_law_223 : decode cL_law 223 = .ok (.invokevirtual 17, 3) := by decide +kernel
theorem dL_law_226 : decode cL_law 226 = .ok (.if_icmp .eq 1264, 3) := by decide +kernel
theorem dL_law_229 : decode cL_law 229 = .ok (.iconst 0, 1) := by decide +kernel
theorem dL_law_230 : decode cL_law 230 = .ok (.ireturn, 1) := by decide +kernel
theorem dL_law_231 : decode cL_law 231 = .ok (.aload_n 1, 1) := by decide +kernel
theorem dL_law_232 : decode cL_law 232 = .ok (.aload_n 0, 1) := by decide +kernel
theorem dL_law_233 : decode cL_law 233 = .ok (.iload_n 3, 1) := by decide +kernel
theorem dL_law_234 : decode cL_law 234 = .ok (.iconst 1, 1) := by decide +kernel
theorem dL_law_235 : decode cL_law 235 = .ok (.iadd, 1) := by decide +kernel
theorem dL_law_236 : decode cL_law 236 = .ok (.iaload, 1) := by decide +kernel
theorem dL_law_237 : decode cL_law 237 = .ok (.aload_n 0, 1) := by decide +kernel
theorem dL_law_238 : decode cL_law 238 = .ok (.iload_n 3, 1) := by decide +kernel
theorem dL_law_239 : decode cL_law 239 = .ok (.iconst 2, 1) := by decide +kernel
theorem dL_law_240 : decode cL_law 240 = .ok (.iadd, 1) := by decide +kernel
theorem dL_law_241 : decode cL_law 241 = .ok (.iaload, 1) := by decide +kernel
theorem dL_law_242 : decode cL_law 242 = .ok (.invokevirtual 18, 3) := by decide +kernel
theorem dL_law_245 : decode cL_law 245 = .ok (.aload_n 2, 1) := by decide +kernel
theorem dL_law_246 : decode cL_law 246 = .ok (.aload_n 0, 1) := by decide +kernel
theorem dL_law_247 : decode cL_law 247 = .ok (.iload_n 3, 1) := by decide +kernel
theorem dL_law_248 : decode cL_law 248 = .ok (.iconst 1, 1) := by decide +kernel
theorem dL_law_249 : decode cL_law 249 = .ok (.iadd, 1) := by decide +kernel
theorem dL_law_250 : decode cL_law 250 = .ok (.iaload, 1) := by decide +kernel
theorem dL_law_251 : decode cL_law 251 = .ok (.aload_n 0, 1) := by decide +kernel
theorem dL_law_252 : decode cL_law 252 = .ok (.iload_n 3, 1) := by decide +kernel
theorem dL_law_253 : decode cL_law 253 = .ok (.iconst 2, 1) := by decide +kernel
theorem dL_law_254 : decode cL_law 254 = .ok (.iadd, 1) := by decide +kernel
theorem dL_law_255 : decode cL_law 255 = .ok (.iaload, 1) := by decide +kernel
theorem dL_law_256 : decode cL_law 256 = .ok (.invokevirtual 22, 3) := by decide +kernel
theorem dL_law_259 : decode cL_law 259 = .ok (.if_icmp .eq 1231, 3) := by decide +kernel
theorem dL_law_262 : decode cL_law 262 = .ok (.iconst 0, 1) := by decide +kernel
theorem dL_law_263 : decode cL_law 263 = .ok (.ireturn, 1) := by decide +kernel
theorem dL_law_264 : decode cL_law 264 = .ok (.aload_n 1, 1) := by decide +kernel
theorem dL_law_265 : decode cL_law 265 = .ok (.aload_n 0, 1) := by decide +kernel
theorem dL_law_266 : decode cL_law 266 = .ok (.iload_n 3, 1) := by decide +kernel
theorem dL_law_267 : decode cL_law 267 = .ok (.iconst 1, 1) := by decide +kernel
theorem dL_law_268 : decode cL_law 268 = .ok (.iadd, 1) := by decide +kernel
theorem dL_law_269 : decode cL_law 269 = .ok (.iaload, 1) := by decide +kernel
theorem dL_law_270 : decode cL_law 270 = .ok (.invokevirtual 23, 3) := by decide +kernel
theorem dL_law_273 : decode cL_law 273 = .ok (.aload_n 2, 1) := by decide +kernel
theorem dL_law_274 : decode cL_law 274 = .ok (.aload_n 0, 1) := by decide +kernel
theorem dL_law_275 : decode cL_law 275 = .ok (.iload_n 3, 1) := by decide +kernel
theorem dL_law_276 : decode cL_law 276 = .ok (.iconst 1, 1) := by decide +kernel
theorem dL_law_277 : decode cL_law 277 = .ok (.iadd, 1) := by decide +kernel
theorem dL_law_278 : decode cL_law 278 = .ok (.iaload, 1) := by decide +kernel
theorem dL_law_279 : decode cL_law 279 = .ok (.invokevirtual 27, 3) := by decide +kernel
theorem dL_law_282 : decode cL_law 282 = .ok (.if_icmp .eq 1208, 3) := by decide +kernel
theorem dL_law_285 : decode cL_law 285 = .ok (.iconst 0, 1) := by decide +kernel
theorem dL_law_286 : decode cL_law 286 = .ok (.ireturn, 1) := by decide +kernel
theorem dL_law_287 : decode cL_law 287 = .ok (.aload_n 1, 1) := by decide +kernel
theorem dL_law_288 : decode cL_law 288 = .ok (.aload_n 0, 1) := by decide +kernel
theorem dL_law_289 : decode cL_law 289 = .ok (.iload_n 3, 1) := by decide +kernel
theorem dL_law_290 : decode cL_law 290 = .ok (.iconst 1, 1) := by decide +kernel
theorem dL_law_291 : decode cL_law 291 = .ok (.iadd, 1) := by decide +kernel
theorem dL_law_292 : decode cL_law 292 = .ok (.iaload, 1) := by decide +kernel
theorem dL_law_293 : decode cL_law 293 = .ok (.invokevirtual 28, 3) := by decide +kernel
theorem dL_law_296 : decode cL_law 296 = .ok (.aload_n 2, 1) := by decide +kernel
theorem dL_law_297 : decode cL_law 297 = .ok (.aload_n 0, 1) := by decide +kernel
theorem dL_law_298 : decode cL_law 298 = .ok (.iload_n 3, 1) := by decide +kernel
theorem dL_law_299 : decode cL_law 299 = .ok (.iconst 1, 1) := by decide +kernel
theorem dL_law_300 : decode cL_law 300 = .ok (.iadd, 1) := by decide +kernel
theorem dL_law_301 : decode cL_law 301 = .ok (.iaload, 1) := by decide +kernel
theorem dL_law_302 : decode cL_law 302 = .ok (.invokevirtual 31, 3) := by decide +kernel
theorem dL_law_305 : decode cL_law 305 = .ok (.if_icmp .eq 1185, 3) := by decide +kernel
theorem dL_law_308 : decode cL_law 308 = .ok (.iconst 0, 1) := by decide +kernel
theorem dL_law_309 : decode cL_law 309 = .ok (.ireturn, 1) := by decide +kernel
theorem dL_law_310 : decode cL_law 310 = .ok (.aload_n 1, 1) := by decide +kernel
theorem dL_law_311 : decode cL_law 311 = .ok (.aload_n 0, 1) := by decide +kernel
theorem dL_law_312 : decode cL_law 312 = .ok (.iload_n 3, 1) := by decide +kernel
theorem dL_law_313 : decode cL_law 313 = .ok (.iconst 1, 1) := by decide +kernel
theorem dL_law_314 : decode cL_law 314 = .ok (.iadd, 1) := by decide +kernel
theorem dL_law_315 : decode cL_law 315 = .ok (.iaload, 1) := by decide +kernel
theorem dL_law_316 : decode cL_law 316 = .ok (.invokevirtual 32, 3) := by decide +kernel
theorem dL_law_319 : decode cL_law 319 = .ok (.aload_n 2, 1) := by decide +kernel
theorem dL_law_320 : decode cL_law 320 = .ok (.aload_n 0, 1) := by decide +kernel
theorem dL_law_321 : decode cL_law 321 = .ok (.iload_n 3, 1) := by decide +kernel
theorem dL_law_322 : decode cL_law 322 = .ok (.iconst 1, 1) := by decide +kernel
theorem dL_law_323 : decode cL_law 323 = .ok (.iadd, 1) := by decide +kernel
theorem dL_law_324 : decode cL_law 324 = .ok (.iaload, 1) := by decide +kernel
theorem dL_law_325 : decode cL_law 325 = .ok (.invokevirtual 35, 3) := by decide +kernel
theorem dL_law_328 : decode cL_law 328 = .ok (.if_icmp .eq 1162, 3) := by decide +kernel
theorem dL_law_331 : decode cL_law 331 = .ok (.iconst 0, 1) := by decide +kernel
theorem dL_law_332 : decode cL_law 332 = .ok (.ireturn, 1) := by decide +kernel
theorem dL_law_333 : decode cL_law 333 = .ok (.aload_n 1, 1) := by decide +kernel
theorem dL_law_334 : decode cL_law 334 = .ok (.invokevirtual 36, 3) := by decide +kernel
theorem dL_law_337 : decode cL_law 337 = .ok (.aload_n 2, 1) := by decide +kernel
theorem dL_law_338 : decode cL_law 338 = .ok (.invokevirtual 40, 3) := by decide +kernel
theorem dL_law_341 : decode cL_law 341 = .ok (.if_icmp .eq 1149, 3) := by decide +kernel
theorem dL_law_344 : decode cL_law 344 = .ok (.iconst 0, 1) := by decide +kernel
theorem dL_law_345 : decode cL_law 345 = .ok (.ireturn, 1) := by decide +kernel
theorem dL_law_346 : decode cL_law 346 = .ok (.aload_n 1, 1) := by decide +kernel
theorem dL_law_347 : decode cL_law 347 = .ok (.aload_n 0, 1) := by decide +kernel
theorem dL_law_348 : decode cL_law 348 = .ok (.iload_n 3, 1) := by decide +kernel
theorem dL_law_349 : decode cL_law 349 = .ok (.iconst 1, 1) := by decide +kernel
theorem dL_law_350 : decode cL_law 350 = .ok (.iadd, 1) := by decide +kernel
theorem dL_law_351 : decode cL_law 351 = .ok (.iaload, 1) := by decide +kernel
theorem dL_law_352 : decode cL_law 352 = .ok (.invokevirtual 41, 3) := by decide +kernel
theorem dL_law_355 : decode cL_law 355 = .ok (.aload_n 2, 1) := by decide +kernel
theorem dL_law_356 : decode cL_law 356 = .ok (.aload_n 0, 1) := by decide +kernel
theorem dL_law_357 : decode cL_law 357 = .ok (.iload_n 3, 1) := by decide +kernel
theorem dL_law_358 : decode cL_law 358 = .ok (.iconst 1, 1) := by decide +kernel
theorem dL_law_359 : decode cL_law 359 = .ok (.iadd, 1) := by decide +kernel
theorem dL_law_360 : decode cL_law 360 = .ok (.iaload, 1) := by decide +kernel
theorem dL_law_361 : decode cL_law 361 = .ok (.invokevirtual 44, 3) := by decide +kernel
theorem dL_law_364 : decode cL_law 364 = .ok (.if_icmp .eq 1126, 3) := by decide +kernel
theorem dL_law_367 : decode cL_law 367 = .ok (.iconst 0, 1) := by decide +kernel
theorem dL_law_368 : decode cL_law 368 = .ok (.ireturn, 1) := by decide +kernel
theorem dL_law_369 : decode cL_law 369 = .ok (.aload_n 1, 1) := by decide +kernel
theorem dL_law_370 : decode cL_law 370 = .ok (.invokevirtual 45, 3) := by decide +kernel
theorem dL_law_373 : decode cL_law 373 = .ok (.aload_n 2, 1) := by decide +kernel
theorem dL_law_374 : decode cL_law 374 = .ok (.invokevirtual 48, 3) := by decide +kernel
theorem dL_law_377 : decode cL_law 377 = .ok (.if_icmp .eq 1113, 3) := by decide +kernel
theorem dL_law_380 : decode cL_law 380 = .ok (.iconst 0, 1) := by decide +kernel
theorem dL_law_381 : decode cL_law 381 = .ok (.ireturn, 1) := by decide +kernel
theorem dL_law_382 : decode cL_law 382 = .ok (.aload_n 1, 1) := by decide +kernel
theorem dL_law_383 : decode cL_law 383 = .ok (.aload_n 0, 1) := by decide +kernel
theorem dL_law_384 : decode cL_law 384 = .ok (.iload_n 3, 1) := by decide +kernel
theorem dL_law_385 : decode cL_law 385 = .ok (.iconst 1, 1) := by decide +kernel
theorem dL_law_386 : decode cL_law 386 = .ok (.iadd, 1) := by decide +kernel
theorem dL_law_387 : decode cL_law 387 = .ok (.iaload, 1) := by decide +kernel
theorem dL_law_388 : decode cL_law 388 = .ok (.aload_n 0, 1) := by decide +kernel
theorem dL_law_389 : decode cL_law 389 = .ok (.iload_n 3, 1) := by decide +kernel
theorem dL_law_390 : decode cL_law 390 = .ok (.iconst 2, 1) := by decide +kernel
theorem dL_law_391 : decode cL_law 391 = .ok (.iadd, 1) := by decide +kernel
theorem dL_law_392 : decode cL_law 392 = .ok (.iaload, 1) := by decide +kernel
theorem dL_law_393 : decode cL_law 393 = .ok (.aload_n 0, 1) := by decide +kernel
theorem dL_law_394 : decode cL_law 394 = .ok (.iload_n 3, 1) := by decide +kernel
theorem dL_law_395 : decode cL_law 395 = .ok (.iconst 3, 1) := by decide +kernel
theorem dL_law_396 : decode cL_law 396 = .ok (.iadd, 1) := by decide +kernel
theorem dL_law_397 : decode cL_law 397 = .ok (.iaload, 1) := by decide +kernel
theorem dL_law_398 : decode cL_law 398 = .ok (.invokevirtual 49, 3) := by decide +kernel
theorem dL_law_401 : decode cL_law 401 = .ok (.aload_n 2, 1) := by decide +kernel
theorem dL_law_402 : decode cL_law 402 = .ok (.aload_n 0, 1) := by decide +kernel
theorem dL_law_403 : decode cL_law 403 = .ok (.iload_n 3, 1) := by decide +kernel
theorem dL_law_404 : decode cL_law 404 = .ok (.iconst 1, 1) := by decide +kernel
theorem dL_law_405 : decode cL_law 405 = .ok (.iadd, 1) := by decide +kernel
theorem dL_law_406 : decode cL_law 406 = .ok (.iaload, 1) := by decide +kernel
theorem dL_law_407 : decode cL_law 407 = .ok (.aload_n 0, 1) := by decide +kernel
theorem dL_law_408 : decode cL_law 408 = .ok (.iload_n 3, 1) := by decide +kernel
theorem dL_law_409 : decode cL_law 409 = .ok (.iconst 2, 1) := by decide +kernel
theorem dL_law_410 : decode cL_law 410 = .ok (.iadd, 1) := by decide +kernel
theorem dL_law_411 : decode cL_law 411 = .ok (.iaload, 1) := by decide +kernel
theorem dL_law_412 : decode cL_law 412 = .ok (.aload_n 0, 1) := by decide +kernel
theorem dL_law_413 : decode cL_law 413 = .ok (.iload_n 3, 1) := by decide +kernel
theorem dL_law_414 : decode cL_law 414 = .ok (.iconst 3, 1) := by decide +kernel
theorem dL_law_415 : decode cL_law 415 = .ok (.iadd, 1) := by decide +kernel
theorem dL_law_416 : decode cL_law 416 = .ok (.iaload, 1) := by decide +kernel
theorem dL_law_417 : decode cL_law 417 = .ok (.invokevirtual 52, 3) := by decide +kernel
theorem dL_law_420 : decode cL_law 420 = .ok (.if_icmp .eq 1070, 3) := by decide +kernel
theorem dL_law_423 : decode cL_law 423 = .ok (.iconst 0, 1) := by decide +kernel
theorem dL_law_424 : decode cL_law 424 = .ok (.ireturn, 1) := by decide +kernel
theorem dL_law_425 : decode cL_law 425 = .ok (.aload_n 1, 1) := by decide +kernel
theorem dL_law_426 : decode cL_law 426 = .ok (.aload_n 0, 1) := by decide +kernel
theorem dL_law_427 : decode cL_law 427 = .ok (.iload_n 3, 1) := by decide +kernel
theorem dL_law_428 : decode cL_law 428 = .ok (.iconst 1, 1) := by decide +kernel
theorem dL_law_429 : decode cL_law 429 = .ok (.iadd, 1) := by decide +kernel
theorem dL_law_430 : decode cL_law 430 = .ok (.iaload, 1) := by decide +kernel
theorem dL_law_431 : decode cL_law 431 = .ok (.aload_n 0, 1) := by decide +kernel
theorem dL_law_432 : decode cL_law 432 = .ok (.iload_n 3, 1) := by decide +kernel
theorem dL_law_433 : decode cL_law 433 = .ok (.iconst 2, 1) := by decide +kernel
theorem dL_law_434 : decode cL_law 434 = .ok (.iadd, 1) := by decide +kernel
theorem dL_law_435 : decode cL_law 435 = .ok (.iaload, 1) := by decide +kernel
theorem dL_law_436 : decode cL_law 436 = .ok (.invokevirtual 53, 3) := by decide +kernel
theorem dL_law_439 : decode cL_law 439 = .ok (.aload_n 2, 1) := by decide +kernel
theorem dL_law_440 : decode cL_law 440 = .ok (.aload_n 0, 1) := by decide +kernel
theorem dL_law_441 : decode cL_law 441 = .ok (.iload_n 3, 1) := by decide +kernel
theorem dL_law_442 : decode cL_law 442 = .ok (.iconst 1, 1) := by decide +kernel
theorem dL_law_443 : decode cL_law 443 = .ok (.iadd, 1) := by decide +kernel
theorem dL_law_444 : decode cL_law 444 = .ok (.iaload, 1) := by decide +kernel
theorem dL_law_445 : decode cL_law 445 = .ok (.aload_n 0, 1) := by decide +kernel
theorem dL_law_446 : decode cL_law 446 = .ok (.iload_n 3, 1) := by decide +kernel
theorem dL_law_447 : decode cL_law 447 = .ok (.iconst 2, 1) := by decide +kernel
theorem dL_law_448 : decode cL_law 448 = .ok (.iadd, 1) := by decide +kernel
theorem dL_law_449 : decode cL_law 449 = .ok (.iaload, 1) := by decide +kernel
theorem dL_law_450 : decode cL_law 450 = .ok (.invokevirtual 56, 3) := by decide +kernel
theorem dL_law_453 : decode cL_law 453 = .ok (.if_icmp .eq 1037, 3) := by decide +kernel
theorem dL_law_456 : decode cL_law 456 = .ok (.iconst 0, 1) := by decide +kernel
theorem dL_law_457 : decode cL_law 457 = .ok (.ireturn, 1) := by decide +kernel
theorem dL_law_458 : decode cL_law 458 = .ok (.aload_n 1, 1) := by decide +kernel
theorem dL_law_459 : decode cL_law 459 = .ok (.aload_n 0, 1) := by decide +kernel
theorem dL_law_460 : decode cL_law 460 = .ok (.iload_n 3, 1) := by decide +kernel
theorem dL_law_461 : decode cL_law 461 = .ok (.iconst 1, 1) := by decide +kernel
theorem dL_law_462 : decode cL_law 462 = .ok (.iadd, 1) := by decide +kernel
theorem dL_law_463 : decode cL_law 463 = .ok (.iaload, 1) := by decide +kernel
theorem dL_law_464 : decode cL_law 464 = .ok (.aload_n 0, 1) := by decide +kernel
theorem dL_law_465 : decode cL_law 465 = .ok (.iload_n 3, 1) := by decide +kernel
theorem dL_law_466 : decode cL_law 466 = .ok (.iconst 2, 1) := by decide +kernel
theorem dL_law_467 : decode cL_law 467 = .ok (.iadd, 1) := by decide +kernel
theorem dL_law_468 : decode cL_law 468 = .ok (.iaload, 1) := by decide +kernel
theorem dL_law_469 : decode cL_law 469 = .ok (.aload_n 0, 1) := by decide +kernel
theorem dL_law_470 : decode cL_law 470 = .ok (.iload_n 3, 1) := by decide +kernel
theorem dL_law_471 : decode cL_law 471 = .ok (.iconst 3, 1) := by decide +kernel
theorem dL_law_472 : decode cL_law 472 = .ok (.iadd, 1) := by decide +kernel
theorem dL_law_473 : decode cL_law 473 = .ok (.iaload, 1) := by decide +kernel
theorem dL_law_474 : decode cL_law 474 = .ok (.aload_n 0, 1) := by decide +kernel
theorem dL_law_475 : decode cL_law 475 = .ok (.iload_n 3, 1) := by decide +kernel
theorem dL_law_476 : decode cL_law 476 = .ok (.iconst 4, 1) := by decide +kernel
theorem dL_law_477 : decode cL_law 477 = .ok (.iadd, 1) := by decide +kernel
theorem dL_law_478 : decode cL_law 478 = .ok (.iaload, 1) := by decide +kernel
theorem dL_law_479 : decode cL_law 479 = .ok (.invokevirtual 57, 3) := by decide +kernel
theorem dL_law_482 : decode cL_law 482 = .ok (.aload_n 2, 1) := by decide +kernel
theorem dL_law_483 : decode cL_law 483 = .ok (.aload_n 0, 1) := by decide +kernel
theorem dL_law_484 : decode cL_law 484 = .ok (.iload_n 3, 1) := by decide +kernel
theorem dL_law_485 : decode cL_law 485 = .ok (.iconst 1, 1) := by decide +kernel
theorem dL_law_486 : decode cL_law 486 = .ok (.iadd, 1) := by decide +kernel
theorem dL_law_487 : decode cL_law 487 = .ok (.iaload, 1) := by decide +kernel
theorem dL_law_488 : decode cL_law 488 = .ok (.aload_n 0, 1) := by decide +kernel
theorem dL_law_489 : decode cL_law 489 = .ok (.iload_n 3, 1) := by decide +kernel
theorem dL_law_490 : decode cL_law 490 = .ok (.iconst 2, 1) := by decide +kernel
theorem dL_law_491 : decode cL_law 491 = .ok (.iadd, 1) := by decide +kernel
theorem dL_law_492 : decode cL_law 492 = .ok (.iaload, 1) := by decide +kernel
theorem dL_law_493 : decode cL_law 493 = .ok (.aload_n 0, 1) := by decide +kernel
theorem dL_law_494 : decode cL_law 494 = .ok (.iload_n 3, 1) := by decide +kernel
theorem dL_law_495 : decode cL_law 495 = .ok (.iconst 3, 1) := by decide +kernel
theorem dL_law_496 : decode cL_law 496 = .ok (.iadd, 1) := by decide +kernel
theorem dL_law_497 : decode cL_law 497 = .ok (.iaload, 1) := by decide +kernel
theorem dL_law_498 : decode cL_law 498 = .ok (.aload_n 0, 1) := by decide +kernel
theorem dL_law_499 : decode cL_law 499 = .ok (.iload_n 3, 1) := by decide +kernel
theorem dL_law_500 : decode cL_law 500 = .ok (.iconst 4, 1) := by decide +kernel
theorem dL_law_501 : decode cL_law 501 = .ok (.iadd, 1) := by decide +kernel
theorem dL_law_502 : decode cL_law 502 = .ok (.iaload, 1) := by decide +kernel
theorem dL_law_503 : decode cL_law 503 = .ok (.invokevirtual 61, 3) := by decide +kernel
theorem dL_law_506 : decode cL_law 506 = .ok (.if_icmp .eq 984, 3) := by decide +kernel
theorem dL_law_509 : decode cL_law 509 = .ok (.iconst 0, 1) := by decide +kernel
theorem dL_law_510 : decode cL_law 510 = .ok (.ireturn, 1) := by decide +kernel
theorem dL_law_511 : decode cL_law 511 = .ok (.aload_n 1, 1) := by decide +kernel
theorem dL_law_512 : decode cL_law 512 = .ok (.aload_n 0, 1) := by decide +kernel
theorem dL_law_513 : decode cL_law 513 = .ok (.iload_n 3, 1) := by decide +kernel
theorem dL_law_514 : decode cL_law 514 = .ok (.iconst 1, 1) := by decide +kernel
theorem dL_law_515 : decode cL_law 515 = .ok (.iadd, 1) := by decide +kernel
theorem dL_law_516 : decode cL_law 516 = .ok (.iaload, 1) := by decide +kernel
theorem dL_law_517 : decode cL_law 517 = .ok (.aload_n 0, 1) := by decide +kernel
theorem dL_law_518 : decode cL_law 518 = .ok (.iload_n 3, 1) := by decide +kernel
theorem dL_law_519 : decode cL_law 519 = .ok (.iconst 2, 1) := by decide +kernel
theorem dL_law_520 : decode cL_law 520 = .ok (.iadd, 1) := by decide +kernel
theorem dL_law_521 : decode cL_law 521 = .ok (.iaload, 1) := by decide +kernel
theorem dL_law_522 : decode cL_law 522 = .ok (.aload_n 0, 1) := by decide +kernel
theorem dL_law_523 : decode cL_law 523 = .ok (.iload_n 3, 1) := by decide +kernel
theorem dL_law_524 : decode cL_law 524 = .ok (.iconst 3, 1) := by decide +kernel
theorem dL_law_525 : decode cL_law 525 = .ok (.iadd, 1) := by decide +kernel
theorem dL_law_526 : decode cL_law 526 = .ok (.iaload, 1) := by decide +kernel
theorem dL_law_527 : decode cL_law 527 = .ok (.invokevirtual 62, 3) := by decide +kernel
theorem dL_law_530 : decode cL_law 530 = .ok (.aload_n 2, 1) := by decide +kernel
theorem dL_law_531 : decode cL_law 531 = .ok (.aload_n 0, 1) := by decide +kernel
theorem dL_law_532 : decode cL_law 532 = .ok (.iload_n 3, 1) := by decide +kernel
theorem dL_law_533 : decode cL_law 533 = .ok (.iconst 1, 1) := by decide +kernel
theorem dL_law_534 : decode cL_law 534 = .ok (.iadd, 1) := by decide +kernel
theorem dL_law_535 : decode cL_law 535 = .ok (.iaload, 1) := by decide +kernel
theorem dL_law_536 : decode cL_law 536 = .ok (.aload_n 0, 1) := by decide +kernel
theorem dL_law_537 : decode cL_law 537 = .ok (.iload_n 3, 1) := by decide +kernel
theorem dL_law_538 : decode cL_law 538 = .ok (.iconst 2, 1) := by decide +kernel
theorem dL_law_539 : decode cL_law 539 = .ok (.iadd, 1) := by decide +kernel
theorem dL_law_540 : decode cL_law 540 = .ok (.iaload, 1) := by decide +kernel
theorem dL_law_541 : decode cL_law 541 = .ok (.aload_n 0, 1) := by decide +kernel
theorem dL_law_542 : decode cL_law 542 = .ok (.iload_n 3, 1) := by decide +kernel
theorem dL_law_543 : decode cL_law 543 = .ok (.iconst 3, 1) := by decide +kernel
theorem dL_law_544 : decode cL_law 544 = .ok (.iadd, 1) := by decide +kernel
theorem dL_law_545 : decode cL_law 545 = .ok (.iaload, 1) := by decide +kernel
theorem dL_law_546 : decode cL_law 546 = .ok (.invokevirtual 65, 3) := by decide +kernel
theorem dL_law_549 : decode cL_law 549 = .ok (.if_icmp .eq 941, 3) := by decide +kernel
theorem dL_law_552 : decode cL_law 552 = .ok (.iconst 0, 1) := by decide +kernel
theorem dL_law_553 : decode cL_law 553 = .ok (.ireturn, 1) := by decide +kernel
theorem dL_law_554 : decode cL_law 554 = .ok (.aload_n 1, 1) := by decide +kernel
theorem dL_law_555 : decode cL_law 555 = .ok (.aload_n 0, 1) := by decide +kernel
theorem dL_law_556 : decode cL_law 556 = .ok (.iload_n 3, 1) := by decide +kernel
theorem dL_law_557 : decode cL_law 557 = .ok (.iconst 1, 1) := by decide +kernel
theorem dL_law_558 : decode cL_law 558 = .ok (.iadd, 1) := by decide +kernel
theorem dL_law_559 : decode cL_law 559 = .ok (.iaload, 1) := by decide +kernel
theorem dL_law_560 : decode cL_law 560 = .ok (.aload_n 0, 1) := by decide +kernel
theorem dL_law_561 : decode cL_law 561 = .ok (.iload_n 3, 1) := by decide +kernel
theorem dL_law_562 : decode cL_law 562 = .ok (.iconst 2, 1) := by decide +kernel
theorem dL_law_563 : decode cL_law 563 = .ok (.iadd, 1) := by decide +kernel
theorem dL_law_564 : decode cL_law 564 = .ok (.iaload, 1) := by decide +kernel
theorem dL_law_565 : decode cL_law 565 = .ok (.aload_n 0, 1) := by decide +kernel
theorem dL_law_566 : decode cL_law 566 = .ok (.iload_n 3, 1) := by decide +kernel
theorem dL_law_567 : decode cL_law 567 = .ok (.iconst 3, 1) := by decide +kernel
theorem dL_law_568 : decode cL_law 568 = .ok (.iadd, 1) := by decide +kernel
theorem dL_law_569 : decode cL_law 569 = .ok (.iaload, 1) := by decide +kernel
theorem dL_law_570 : decode cL_law 570 = .ok (.aload_n 0, 1) := by decide +kernel
theorem dL_law_571 : decode cL_law 571 = .ok (.iload_n 3, 1) := by decide +kernel
theorem dL_law_572 : decode cL_law 572 = .ok (.iconst 4, 1) := by decide +kernel
theorem dL_law_573 : decode cL_law 573 = .ok (.iadd, 1) := by decide +kernel
theorem dL_law_574 : decode cL_law 574 = .ok (.iaload, 1) := by decide +kernel
theorem dL_law_575 : decode cL_law 575 = .ok (.aload_n 0, 1) := by decide +kernel
theorem dL_law_576 : decode cL_law 576 = .ok (.iload_n 3, 1) := by decide +kernel
theorem dL_law_577 : decode cL_law 577 = .ok (.iconst 5, 1) := by decide +kernel
theorem dL_law_578 : decode cL_law 578 = .ok (.iadd, 1) := by decide +kernel
theorem dL_law_579 : decode cL_law 579 = .ok (.iaload, 1) := by decide +kernel
theorem dL_law_580 : decode cL_law 580 = .ok (.invokevirtual 66, 3) := by decide +kernel
theorem dL_law_583 : decode cL_law 583 = .ok (.aload_n 2, 1) := by decide +kernel
theorem dL_law_584 : decode cL_law 584 = .ok (.aload_n 0, 1) := by decide +kernel
theorem dL_law_585 : decode cL_law 585 = .ok (.iload_n 3, 1) := by decide +kernel
theorem dL_law_586 : decode cL_law 586 = .ok (.iconst 1, 1) := by decide +kernel
theorem dL_law_587 : decode cL_law 587 = .ok (.iadd, 1) := by decide +kernel
theorem dL_law_588 : decode cL_law 588 = .ok (.iaload, 1) := by decide +kernel
theorem dL_law_589 : decode cL_law 589 = .ok (.aload_n 0, 1) := by decide +kernel
theorem dL_law_590 : decode cL_law 590 = .ok (.iload_n 3, 1) := by decide +kernel
theorem dL_law_591 : decode cL_law 591 = .ok (.iconst 2, 1) := by decide +kernel
theorem dL_law_592 : decode cL_law 592 = .ok (.iadd, 1) := by decide +kernel
theorem dL_law_593 : decode cL_law 593 = .ok (.iaload, 1) := by decide +kernel
theorem dL_law_594 : decode cL_law 594 = .ok (.aload_n 0, 1) := by decide +kernel
theorem dL_law_595 : decode cL_law 595 = .ok (.iload_n 3, 1) := by decide +kernel
theorem dL_law_596 : decode cL_law 596 = .ok (.iconst 3, 1) := by decide +kernel
theorem dL_law_597 : decode cL_law 597 = .ok (.iadd, 1) := by decide +kernel
theorem dL_law_598 : decode cL_law 598 = .ok (.iaload, 1) := by decide +kernel
theorem dL_law_599 : decode cL_law 599 = .ok (.aload_n 0, 1) := by decide +kernel
theorem dL_law_600 : decode cL_law 600 = .ok (.iload_n 3, 1) := by decide +kernel
theorem dL_law_601 : decode cL_law 601 = .ok (.iconst 4, 1) := by decide +kernel
theorem dL_law_602 : decode cL_law 602 = .ok (.iadd, 1) := by decide +kernel
theorem dL_law_603 : decode cL_law 603 = .ok (.iaload, 1) := by decide +kernel
theorem dL_law_604 : decode cL_law 604 = .ok (.aload_n 0, 1) := by decide +kernel
theorem dL_law_605 : decode cL_law 605 = .ok (.iload_n 3, 1) := by decide +kernel
theorem dL_law_606 : decode cL_law 606 = .ok (.iconst 5, 1) := by decide +kernel
theorem dL_law_607 : decode cL_law 607 = .ok (.iadd, 1) := by decide +kernel
theorem dL_law_608 : decode cL_law 608 = .ok (.iaload, 1) := by decide +kernel
theorem dL_law_609 : decode cL_law 609 = .ok (.invokevirtual 70, 3) := by decide +kernel
theorem dL_law_612 : decode cL_law 612 = .ok (.if_icmp .eq 878, 3) := by decide +kernel
theorem dL_law_615 : decode cL_law 615 = .ok (.iconst 0, 1) := by decide +kernel
theorem dL_law_616 : decode cL_law 616 = .ok (.ireturn, 1) := by decide +kernel
theorem dL_law_617 : decode cL_law 617 = .ok (.aload_n 1, 1) := by decide +kernel
theorem dL_law_618 : decode cL_law 618 = .ok (.aload_n 0, 1) := by decide +kernel
theorem dL_law_619 : decode cL_law 619 = .ok (.iload_n 3, 1) := by decide +kernel
theorem dL_law_620 : decode cL_law 620 = .ok (.iconst 1, 1) := by decide +kernel
theorem dL_law_621 : decode cL_law 621 = .ok (.iadd, 1) := by decide +kernel
theorem dL_law_622 : decode cL_law 622 = .ok (.iaload, 1) := by decide +kernel
theorem dL_law_623 : decode cL_law 623 = .ok (.aload_n 0, 1) := by decide +kernel
theorem dL_law_624 : decode cL_law 624 = .ok (.iload_n 3, 1) := by decide +kernel
theorem dL_law_625 : decode cL_law 625 = .ok (.iconst 2, 1) := by decide +kernel
theorem dL_law_626 : decode cL_law 626 = .ok (.iadd, 1) := by decide +kernel
theorem dL_law_627 : decode cL_law 627 = .ok (.iaload, 1) := by decide +kernel
theorem dL_law_628 : decode cL_law 628 = .ok (.aload_n 0, 1) := by decide +kernel
theorem dL_law_629 : decode cL_law 629 = .ok (.iload_n 3, 1) := by decide +kernel
theorem dL_law_630 : decode cL_law 630 = .ok (.iconst 3, 1) := by decide +kernel
theorem dL_law_631 : decode cL_law 631 = .ok (.iadd, 1) := by decide +kernel
theorem dL_law_632 : decode cL_law 632 = .ok (.iaload, 1) := by decide +kernel
theorem dL_law_633 : decode cL_law 633 = .ok (.aload_n 0, 1) := by decide +kernel
theorem dL_law_634 : decode cL_law 634 = .ok (.iload_n 3, 1) := by decide +kernel
theorem dL_law_635 : decode cL_law 635 = .ok (.iconst 4, 1) := by decide +kernel
theorem dL_law_636 : decode cL_law 636 = .ok (.iadd, 1) := by decide +kernel
theorem dL_law_637 : decode cL_law 637 = .ok (.iaload, 1) := by decide +kernel
theorem dL_law_638 : decode cL_law 638 = .ok (.aload_n 0, 1) := by decide +kernel
theorem dL_law_639 : decode cL_law 639 = .ok (.iload_n 3, 1) := by decide +kernel
theorem dL_law_640 : decode cL_law 640 = .ok (.iconst 5, 1) := by decide +kernel
theorem dL_law_641 : decode cL_law 641 = .ok (.iadd, 1) := by decide +kernel
theorem dL_law_642 : decode cL_law 642 = .ok (.iaload, 1) := by decide +kernel
theorem dL_law_643 : decode cL_law 643 = .ok (.aload_n 0, 1) := by decide +kernel
theorem dL_law_644 : decode cL_law 644 = .ok (.iload_n 3, 1) := by decide +kernel
theorem dL_law_645 : decode cL_law 645 = .ok (.bipush 6, 2) := by decide +kernel
theorem dL_law_647 : decode cL_law 647 = .ok (.iadd, 1) := by decide +kernel
theorem dL_law_648 : decode cL_law 648 = .ok (.iaload, 1) := by decide +kernel
theorem dL_law_649 : decode cL_law 649 = .ok (.invokevirtual 71, 3) := by decide +kernel
theorem dL_law_652 : decode cL_law 652 = .ok (.aload_n 2, 1) := by decide +kernel
theorem dL_law_653 : decode cL_law 653 = .ok (.aload_n 0, 1) := by decide +kernel
theorem dL_law_654 : decode cL_law 654 = .ok (.iload_n 3, 1) := by decide +kernel
theorem dL_law_655 : decode cL_law 655 = .ok (.iconst 1, 1) := by decide +kernel
theorem dL_law_656 : decode cL_law 656 = .ok (.iadd, 1) := by decide +kernel
theorem dL_law_657 : decode cL_law 657 = .ok (.iaload, 1) := by decide +kernel
theorem dL_law_658 : decode cL_law 658 = .ok (.aload_n 0, 1) := by decide +kernel
theorem dL_law_659 : decode cL_law 659 = .ok (.iload_n 3, 1) := by decide +kernel
theorem dL_law_660 : decode cL_law 660 = .ok (.iconst 2, 1) := by decide +kernel
theorem dL_law_661 : decode cL_law 661 = .ok (.iadd, 1) := by decide +kernel
theorem dL_law_662 : decode cL_law 662 = .ok (.iaload, 1) := by decide +kernel
theorem dL_law_663 : decode cL_law 663 = .ok (.aload_n 0, 1) := by decide +kernel
theorem dL_law_664 : decode cL_law 664 = .ok (.iload_n 3, 1) := by decide +kernel
theorem dL_law_665 : decode cL_law 665 = .ok (.iconst 3, 1) := by decide +kernel
theorem dL_law_666 : decode cL_law 666 = .ok (.iadd, 1) := by decide +kernel
theorem dL_law_667 : decode cL_law 667 = .ok (.iaload, 1) := by decide +kernel
theorem dL_law_668 : decode cL_law 668 = .ok (.aload_n 0, 1) := by decide +kernel
theorem dL_law_669 : decode cL_law 669 = .ok (.iload_n 3, 1) := by decide +kernel
theorem dL_law_670 : decode cL_law 670 = .ok (.iconst 4, 1) := by decide +kernel
theorem dL_law_671 : decode cL_law 671 = .ok (.iadd, 1) := by decide +kernel
theorem dL_law_672 : decode cL_law 672 = .ok (.iaload, 1) := by decide +kernel
theorem dL_law_673 : decode cL_law 673 = .ok (.aload_n 0, 1) := by decide +kernel
theorem dL_law_674 : decode cL_law 674 = .ok (.iload_n 3, 1) := by decide +kernel
theorem dL_law_675 : decode cL_law 675 = .ok (.iconst 5, 1) := by decide +kernel
theorem dL_law_676 : decode cL_law 676 = .ok (.iadd, 1) := by decide +kernel
theorem dL_law_677 : decode cL_law 677 = .ok (.iaload, 1) := by decide +kernel
theorem dL_law_678 : decode cL_law 678 = .ok (.aload_n 0, 1) := by decide +kernel
theorem dL_law_679 : decode cL_law 679 = .ok (.iload_n 3, 1) := by decide +kernel
theorem dL_law_680 : decode cL_law 680 = .ok (.bipush 6, 2) := by decide +kernel
theorem dL_law_682 : decode cL_law 682 = .ok (.iadd, 1) := by decide +kernel
theorem dL_law_683 : decode cL_law 683 = .ok (.iaload, 1) := by decide +kernel
theorem dL_law_684 : decode cL_law 684 = .ok (.invokevirtual 75, 3) := by decide +kernel
theorem dL_law_687 : decode cL_law 687 = .ok (.if_icmp .eq 803, 3) := by decide +kernel
theorem dL_law_690 : decode cL_law 690 = .ok (.iconst 0, 1) := by decide +kernel
theorem dL_law_691 : decode cL_law 691 = .ok (.ireturn, 1) := by decide +kernel
theorem dL_law_692 : decode cL_law 692 = .ok (.aload_n 1, 1) := by decide +kernel
theorem dL_law_693 : decode cL_law 693 = .ok (.aload_n 0, 1) := by decide +kernel
theorem dL_law_694 : decode cL_law 694 = .ok (.iload_n 3, 1) := by decide +kernel
theorem dL_law_695 : decode cL_law 695 = .ok (.iconst 1, 1) := by decide +kernel
theorem dL_law_696 : decode cL_law 696 = .ok (.iadd, 1) := by decide +kernel
theorem dL_law_697 : decode cL_law 697 = .ok (.iaload, 1) := by decide +kernel
theorem dL_law_698 : decode cL_law 698 = .ok (.aload_n 0, 1) := by decide +kernel
theorem dL_law_699 : decode cL_law 699 = .ok (.iload_n 3, 1) := by decide +kernel
theorem dL_law_700 : decode cL_law 700 = .ok (.iconst 2, 1) := by decide +kernel
theorem dL_law_701 : decode cL_law 701 = .ok (.iadd, 1) := by decide +kernel
theorem dL_law_702 : decode cL_law 702 = .ok (.iaload, 1) := by decide +kernel
theorem dL_law_703 : decode cL_law 703 = .ok (.aload_n 0, 1) := by decide +kernel
theorem dL_law_704 : decode cL_law 704 = .ok (.iload_n 3, 1) := by decide +kernel
theorem dL_law_705 : decode cL_law 705 = .ok (.iconst 3, 1) := by decide +kernel
theorem dL_law_706 : decode cL_law 706 = .ok (.iadd, 1) := by decide +kernel
theorem dL_law_707 : decode cL_law 707 = .ok (.iaload, 1) := by decide +kernel
theorem dL_law_708 : decode cL_law 708 = .ok (.aload_n 0, 1) := by decide +kernel
theorem dL_law_709 : decode cL_law 709 = .ok (.iload_n 3, 1) := by decide +kernel
theorem dL_law_710 : decode cL_law 710 = .ok (.iconst 4, 1) := by decide +kernel
theorem dL_law_711 : decode cL_law 711 = .ok (.iadd, 1) := by decide +kernel
theorem dL_law_712 : decode cL_law 712 = .ok (.iaload, 1) := by decide +kernel
theorem dL_law_713 : decode cL_law 713 = .ok (.invokevirtual 76, 3) := by decide +kernel
theorem dL_law_716 : decode cL_law 716 = .ok (.aload_n 2, 1) := by decide +kernel
theorem dL_law_717 : decode cL_law 717 = .ok (.aload_n 0, 1) := by decide +kernel
theorem dL_law_718 : decode cL_law 718 = .ok (.iload_n 3, 1) := by decide +kernel
theorem dL_law_719 : decode cL_law 719 = .ok (.iconst 1, 1) := by decide +kernel
theorem dL_law_720 : decode cL_law 720 = .ok (.iadd, 1) := by decide +kernel
theorem dL_law_721 : decode cL_law 721 = .ok (.iaload, 1) := by decide +kernel
theorem dL_law_722 : decode cL_law 722 = .ok (.aload_n 0, 1) := by decide +kernel
theorem dL_law_723 : decode cL_law 723 = .ok (.iload_n 3, 1) := by decide +kernel
theorem dL_law_724 : decode cL_law 724 = .ok (.iconst 2, 1) := by decide +kernel
theorem dL_law_725 : decode cL_law 725 = .ok (.iadd, 1) := by decide +kernel
theorem dL_law_726 : decode cL_law 726 = .ok (.iaload, 1) := by decide +kernel
theorem dL_law_727 : decode cL_law 727 = .ok (.aload_n 0, 1) := by decide +kernel
theorem dL_law_728 : decode cL_law 728 = .ok (.iload_n 3, 1) := by decide +kernel
theorem dL_law_729 : decode cL_law 729 = .ok (.iconst 3, 1) := by decide +kernel
theorem dL_law_730 : decode cL_law 730 = .ok (.iadd, 1) := by decide +kernel
theorem dL_law_731 : decode cL_law 731 = .ok (.iaload, 1) := by decide +kernel
theorem dL_law_732 : decode cL_law 732 = .ok (.aload_n 0, 1) := by decide +kernel
theorem dL_law_733 : decode cL_law 733 = .ok (.iload_n 3, 1) := by decide +kernel
theorem dL_law_734 : decode cL_law 734 = .ok (.iconst 4, 1) := by decide +kernel
theorem dL_law_735 : decode cL_law 735 = .ok (.iadd, 1) := by decide +kernel
theorem dL_law_736 : decode cL_law 736 = .ok (.iaload, 1) := by decide +kernel
theorem dL_law_737 : decode cL_law 737 = .ok (.invokevirtual 80, 3) := by decide +kernel
theorem dL_law_740 : decode cL_law 740 = .ok (.lcmp, 1) := by decide +kernel
theorem dL_law_741 : decode cL_law 741 = .ok (.ifCond .eq 749, 3) := by decide +kernel
theorem dL_law_744 : decode cL_law 744 = .ok (.iconst 0, 1) := by decide +kernel
theorem dL_law_745 : decode cL_law 745 = .ok (.ireturn, 1) := by decide +kernel
theorem dL_law_746 : decode cL_law 746 = .ok (.aload_n 1, 1) := by decide +kernel
theorem dL_law_747 : decode cL_law 747 = .ok (.aload_n 0, 1) := by decide +kernel
theorem dL_law_748 : decode cL_law 748 = .ok (.iload_n 3, 1) := by decide +kernel
theorem dL_law_749 : decode cL_law 749 = .ok (.iconst 1, 1) := by decide +kernel
theorem dL_law_750 : decode cL_law 750 = .ok (.iadd, 1) := by decide +kernel
theorem dL_law_751 : decode cL_law 751 = .ok (.iaload, 1) := by decide +kernel
theorem dL_law_752 : decode cL_law 752 = .ok (.aload_n 0, 1) := by decide +kernel
theorem dL_law_753 : decode cL_law 753 = .ok (.iload_n 3, 1) := by decide +kernel
theorem dL_law_754 : decode cL_law 754 = .ok (.iconst 2, 1) := by decide +kernel
theorem dL_law_755 : decode cL_law 755 = .ok (.iadd, 1) := by decide +kernel
theorem dL_law_756 : decode cL_law 756 = .ok (.iaload, 1) := by decide +kernel
theorem dL_law_757 : decode cL_law 757 = .ok (.aload_n 0, 1) := by decide +kernel
theorem dL_law_758 : decode cL_law 758 = .ok (.iload_n 3, 1) := by decide +kernel
theorem dL_law_759 : decode cL_law 759 = .ok (.iconst 3, 1) := by decide +kernel
theorem dL_law_760 : decode cL_law 760 = .ok (.iadd, 1) := by decide +kernel
theorem dL_law_761 : decode cL_law 761 = .ok (.iaload, 1) := by decide +kernel
theorem dL_law_762 : decode cL_law 762 = .ok (.invokevirtual 81, 3) := by decide +kernel
theorem dL_law_765 : decode cL_law 765 = .ok (.aload_n 2, 1) := by decide +kernel
theorem dL_law_766 : decode cL_law 766 = .ok (.aload_n 0, 1) := by decide +kernel
theorem dL_law_767 : decode cL_law 767 = .ok (.iload_n 3, 1) := by decide +kernel
theorem dL_law_768 : decode cL_law 768 = .ok (.iconst 1, 1) := by decide +kernel
theorem dL_law_769 : decode cL_law 769 = .ok (.iadd, 1) := by decide +kernel
theorem dL_law_770 : decode cL_law 770 = .ok (.iaload, 1) := by decide +kernel
theorem dL_law_771 : decode cL_law 771 = .ok (.aload_n 0, 1) := by decide +kernel
theorem dL_law_772 : decode cL_law 772 = .ok (.iload_n 3, 1) := by decide +kernel
theorem dL_law_773 : decode cL_law 773 = .ok (.iconst 2, 1) := by decide +kernel
theorem dL_law_774 : decode cL_law 774 = .ok (.iadd, 1) := by decide +kernel
theorem dL_law_775 : decode cL_law 775 = .ok (.iaload, 1) := by decide +kernel
theorem dL_law_776 : decode cL_law 776 = .ok (.aload_n 0, 1) := by decide +kernel
theorem dL_law_777 : decode cL_law 777 = .ok (.iload_n 3, 1) := by decide +kernel
theorem dL_law_778 : decode cL_law 778 = .ok (.iconst 3, 1) := by decide +kernel
theorem dL_law_779 : decode cL_law 779 = .ok (.iadd, 1) := by decide +kernel
theorem dL_law_780 : decode cL_law 780 = .ok (.iaload, 1) := by decide +kernel
theorem dL_law_781 : decode cL_law 781 = .ok (.invokevirtual 85, 3) := by decide +kernel
theorem dL_law_784 : decode cL_law 784 = .ok (.lcmp, 1) := by decide +kernel
theorem dL_law_785 : decode cL_law 785 = .ok (.ifCond .eq 705, 3) := by decide +kernel
theorem dL_law_788 : decode cL_law 788 = .ok (.iconst 0, 1) := by decide +kernel
theorem dL_law_789 : decode cL_law 789 = .ok (.ireturn, 1) := by decide +kernel
theorem dL_law_790 : decode cL_law 790 = .ok (.aload_n 1, 1) := by decide +kernel
theorem dL_law_791 : decode cL_law 791 = .ok (.aload_n 0, 1) := by decide +kernel
theorem dL_law_792 : decode cL_law 792 = .ok (.iload_n 3, 1) := by decide +kernel
theorem dL_law_793 : decode cL_law 793 = .ok (.iconst 1, 1) := by decide +kernel
theorem dL_law_794 : decode cL_law 794 = .ok (.iadd, 1) := by decide +kernel
theorem dL_law_795 : decode cL_law 795 = .ok (.iaload, 1) := by decide +kernel
theorem dL_law_796 : decode cL_law 796 = .ok (.aload_n 0, 1) := by decide +kernel
theorem dL_law_797 : decode cL_law 797 = .ok (.iload_n 3, 1) := by decide +kernel
theorem dL_law_798 : decode cL_law 798 = .ok (.iconst 2, 1) := by decide +kernel
theorem dL_law_799 : decode cL_law 799 = .ok (.iadd, 1) := by decide +kernel
theorem dL_law_800 : decode cL_law 800 = .ok (.iaload, 1) := by decide +kernel
theorem dL_law_801 : decode cL_law 801 = .ok (.aload_n 0, 1) := by decide +kernel
theorem dL_law_802 : decode cL_law 802 = .ok (.iload_n 3, 1) := by decide +kernel
theorem dL_law_803 : decode cL_law 803 = .ok (.iconst 3, 1) := by decide +kernel
theorem dL_law_804 : decode cL_law 804 = .ok (.iadd, 1) := by decide +kernel
theorem dL_law_805 : decode cL_law 805 = .ok (.iaload, 1) := by decide +kernel
theorem dL_law_806 : decode cL_law 806 = .ok (.invokevirtual 86, 3) := by decide +kernel
theorem dL_law_809 : decode cL_law 809 = .ok (.aload_n 2, 1) := by decide +kernel
theorem dL_law_810 : decode cL_law 810 = .ok (.aload_n 0, 1) := by decide +kernel
theorem dL_law_811 : decode cL_law 811 = .ok (.iload_n 3, 1) := by decide +kernel
theorem dL_law_812 : decode cL_law 812 = .ok (.iconst 1, 1) := by decide +kernel
theorem dL_law_813 : decode cL_law 813 = .ok (.iadd, 1) := by decide +kernel
theorem dL_law_814 : decode cL_law 814 = .ok (.iaload, 1) := by decide +kernel
theorem dL_law_815 : decode cL_law 815 = .ok (.aload_n 0, 1) := by decide +kernel
theorem dL_law_816 : decode cL_law 816 = .ok (.iload_n 3, 1) := by decide +kernel
theorem dL_law_817 : decode cL_law 817 = .ok (.iconst 2, 1) := by decide +kernel
theorem dL_law_818 : decode cL_law 818 = .ok (.iadd, 1) := by decide +kernel
theorem dL_law_819 : decode cL_law 819 = .ok (.iaload, 1) := by decide +kernel
theorem dL_law_820 : decode cL_law 820 = .ok (.aload_n 0, 1) := by decide +kernel
theorem dL_law_821 : decode cL_law 821 = .ok (.iload_n 3, 1) := by decide +kernel
theorem dL_law_822 : decode cL_law 822 = .ok (.iconst 3, 1) := by decide +kernel
theorem dL_law_823 : decode cL_law 823 = .ok (.iadd, 1) := by decide +kernel
theorem dL_law_824 : decode cL_law 824 = .ok (.iaload, 1) := by decide +kernel
theorem dL_law_825 : decode cL_law 825 = .ok (.invokevirtual 89, 3) := by decide +kernel
theorem dL_law_828 : decode cL_law 828 = .ok (.if_icmp .eq 662, 3) := by decide +kernel
theorem dL_law_831 : decode cL_law 831 = .ok (.iconst 0, 1) := by decide +kernel
theorem dL_law_832 : decode cL_law 832 = .ok (.ireturn, 1) := by decide +kernel
theorem dL_law_833 : decode cL_law 833 = .ok (.aload_n 1, 1) := by decide +kernel
theorem dL_law_834 : decode cL_law 834 = .ok (.aload_n 0, 1) := by decide +kernel
theorem dL_law_835 : decode cL_law 835 = .ok (.iload_n 3, 1) := by decide +kernel
theorem dL_law_836 : decode cL_law 836 = .ok (.iconst 1, 1) := by decide +kernel
theorem dL_law_837 : decode cL_law 837 = .ok (.iadd, 1) := by decide +kernel
theorem dL_law_838 : decode cL_law 838 = .ok (.iaload, 1) := by decide +kernel
theorem dL_law_839 : decode cL_law 839 = .ok (.aload_n 0, 1) := by decide +kernel
theorem dL_law_840 : decode cL_law 840 = .ok (.iload_n 3, 1) := by decide +kernel
theorem dL_law_841 : decode cL_law 841 = .ok (.iconst 2, 1) := by decide +kernel
theorem dL_law_842 : decode cL_law 842 = .ok (.iadd, 1) := by decide +kernel
theorem dL_law_843 : decode cL_law 843 = .ok (.iaload, 1) := by decide +kernel
theorem dL_law_844 : decode cL_law 844 = .ok (.aload_n 0, 1) := by decide +kernel
theorem dL_law_845 : decode cL_law 845 = .ok (.iload_n 3, 1) := by decide +kernel
theorem dL_law_846 : decode cL_law 846 = .ok (.iconst 3, 1) := by decide +kernel
theorem dL_law_847 : decode cL_law 847 = .ok (.iadd, 1) := by decide +kernel
theorem dL_law_848 : decode cL_law 848 = .ok (.iaload, 1) := by decide +kernel
theorem dL_law_849 : decode cL_law 849 = .ok (.invokevirtual 90, 3) := by decide +kernel
theorem dL_law_852 : decode cL_law 852 = .ok (.aload_n 2, 1) := by decide +kernel
theorem dL_law_853 : decode cL_law 853 = .ok (.aload_n 0, 1) := by decide +kernel
theorem dL_law_854 : decode cL_law 854 = .ok (.iload_n 3, 1) := by decide +kernel
theorem dL_law_855 : decode cL_law 855 = .ok (.iconst 1, 1) := by decide +kernel
theorem dL_law_856 : decode cL_law 856 = .ok (.iadd, 1) := by decide +kernel
theorem dL_law_857 : decode cL_law 857 = .ok (.iaload, 1) := by decide +kernel
theorem dL_law_858 : decode cL_law 858 = .ok (.aload_n 0, 1) := by decide +kernel
theorem dL_law_859 : decode cL_law 859 = .ok (.iload_n 3, 1) := by decide +kernel
theorem dL_law_860 : decode cL_law 860 = .ok (.iconst 2, 1) := by decide +kernel
theorem dL_law_861 : decode cL_law 861 = .ok (.iadd, 1) := by decide +kernel
theorem dL_law_862 : decode cL_law 862 = .ok (.iaload, 1) := by decide +kernel
theorem dL_law_863 : decode cL_law 863 = .ok (.aload_n 0, 1) := by decide +kernel
theorem dL_law_864 : decode cL_law 864 = .ok (.iload_n 3, 1) := by decide +kernel
theorem dL_law_865 : decode cL_law 865 = .ok (.iconst 3, 1) := by decide +kernel
theorem dL_law_866 : decode cL_law 866 = .ok (.iadd, 1) := by decide +kernel
theorem dL_law_867 : decode cL_law 867 = .ok (.iaload, 1) := by decide +kernel
theorem dL_law_868 : decode cL_law 868 = .ok (.invokevirtual 93, 3) := by decide +kernel
theorem dL_law_871 : decode cL_law 871 = .ok (.if_icmp .eq 619, 3) := by decide +kernel
theorem dL_law_874 : decode cL_law 874 = .ok (.iconst 0, 1) := by decide +kernel
theorem dL_law_875 : decode cL_law 875 = .ok (.ireturn, 1) := by decide +kernel
theorem dL_law_876 : decode cL_law 876 = .ok (.aload_n 1, 1) := by decide +kernel
theorem dL_law_877 : decode cL_law 877 = .ok (.aload_n 0, 1) := by decide +kernel
theorem dL_law_878 : decode cL_law 878 = .ok (.iload_n 3, 1) := by decide +kernel
theorem dL_law_879 : decode cL_law 879 = .ok (.iconst 1, 1) := by decide +kernel
theorem dL_law_880 : decode cL_law 880 = .ok (.iadd, 1) := by decide +kernel
theorem dL_law_881 : decode cL_law 881 = .ok (.iaload, 1) := by decide +kernel
theorem dL_law_882 : decode cL_law 882 = .ok (.invokevirtual 94, 3) := by decide +kernel
theorem dL_law_885 : decode cL_law 885 = .ok (.aload_n 2, 1) := by decide +kernel
theorem dL_law_886 : decode cL_law 886 = .ok (.aload_n 0, 1) := by decide +kernel
theorem dL_law_887 : decode cL_law 887 = .ok (.iload_n 3, 1) := by decide +kernel
theorem dL_law_888 : decode cL_law 888 = .ok (.iconst 1, 1) := by decide +kernel
theorem dL_law_889 : decode cL_law 889 = .ok (.iadd, 1) := by decide +kernel
theorem dL_law_890 : decode cL_law 890 = .ok (.iaload, 1) := by decide +kernel
theorem dL_law_891 : decode cL_law 891 = .ok (.invokevirtual 97, 3) := by decide +kernel
theorem dL_law_894 : decode cL_law 894 = .ok (.if_icmp .eq 596, 3) := by decide +kernel
theorem dL_law_897 : decode cL_law 897 = .ok (.iconst 0, 1) := by decide +kernel
theorem dL_law_898 : decode cL_law 898 = .ok (.ireturn, 1) := by decide +kernel
theorem dL_law_899 : decode cL_law 899 = .ok (.aload_n 1, 1) := by decide +kernel
theorem dL_law_900 : decode cL_law 900 = .ok (.aload_n 0, 1) := by decide +kernel
theorem dL_law_901 : decode cL_law 901 = .ok (.iload_n 3, 1) := by decide +kernel
theorem dL_law_902 : decode cL_law 902 = .ok (.iconst 1, 1) := by decide +kernel
theorem dL_law_903 : decode cL_law 903 = .ok (.iadd, 1) := by decide +kernel
theorem dL_law_904 : decode cL_law 904 = .ok (.iaload, 1) := by decide +kernel
theorem dL_law_905 : decode cL_law 905 = .ok (.aload_n 0, 1) := by decide +kernel
theorem dL_law_906 : decode cL_law 906 = .ok (.iload_n 3, 1) := by decide +kernel
theorem dL_law_907 : decode cL_law 907 = .ok (.iconst 2, 1) := by decide +kernel
theorem dL_law_908 : decode cL_law 908 = .ok (.iadd, 1) := by decide +kernel
theorem dL_law_909 : decode cL_law 909 = .ok (.iaload, 1) := by decide +kernel
theorem dL_law_910 : decode cL_law 910 = .ok (.aload_n 0, 1) := by decide +kernel
theorem dL_law_911 : decode cL_law 911 = .ok (.iload_n 3, 1) := by decide +kernel
theorem dL_law_912 : decode cL_law 912 = .ok (.iconst 3, 1) := by decide +kernel
theorem dL_law_913 : decode cL_law 913 = .ok (.iadd, 1) := by decide +kernel
theorem dL_law_914 : decode cL_law 914 = .ok (.iaload, 1) := by decide +kernel
theorem dL_law_915 : decode cL_law 915 = .ok (.invokevirtual 98, 3) := by decide +kernel
theorem dL_law_918 : decode cL_law 918 = .ok (.aload_n 2, 1) := by decide +kernel
theorem dL_law_919 : decode cL_law 919 = .ok (.aload_n 0, 1) := by decide +kernel
theorem dL_law_920 : decode cL_law 920 = .ok (.iload_n 3, 1) := by decide +kernel
theorem dL_law_921 : decode cL_law 921 = .ok (.iconst 1, 1) := by decide +kernel
theorem dL_law_922 : decode cL_law 922 = .ok (.iadd, 1) := by decide +kernel
theorem dL_law_923 : decode cL_law 923 = .ok (.iaload, 1) := by decide +kernel
theorem dL_law_924 : decode cL_law 924 = .ok (.aload_n 0, 1) := by decide +kernel
theorem dL_law_925 : decode cL_law 925 = .ok (.iload_n 3, 1) := by decide +kernel
theorem dL_law_926 : decode cL_law 926 = .ok (.iconst 2, 1) := by decide +kernel
theorem dL_law_927 : decode cL_law 927 = .ok (.iadd, 1) := by decide +kernel
theorem dL_law_928 : decode cL_law 928 = .ok (.iaload, 1) := by decide +kernel
theorem dL_law_929 : decode cL_law 929 = .ok (.aload_n 0, 1) := by decide +kernel
theorem dL_law_930 : decode cL_law 930 = .ok (.iload_n 3, 1) := by decide +kernel
theorem dL_law_931 : decode cL_law 931 = .ok (.iconst 3, 1) := by decide +kernel
theorem dL_law_932 : decode cL_law 932 = .ok (.iadd, 1) := by decide +kernel
theorem dL_law_933 : decode cL_law 933 = .ok (.iaload, 1) := by decide +kernel
theorem dL_law_934 : decode cL_law 934 = .ok (.invokevirtual 101, 3) := by decide +kernel
theorem dL_law_937 : decode cL_law 937 = .ok (.if_icmp .eq 553, 3) := by decide +kernel
theorem dL_law_940 : decode cL_law 940 = .ok (.iconst 0, 1) := by decide +kernel
theorem dL_law_941 : decode cL_law 941 = .ok (.ireturn, 1) := by decide +kernel
theorem dL_law_942 : decode cL_law 942 = .ok (.aload_n 1, 1) := by decide +kernel
theorem dL_law_943 : decode cL_law 943 = .ok (.aload_n 0, 1) := by decide +kernel
theorem dL_law_944 : decode cL_law 944 = .ok (.iload_n 3, 1) := by decide +kernel
theorem dL_law_945 : decode cL_law 945 = .ok (.iconst 1, 1) := by decide +kernel
theorem dL_law_946 : decode cL_law 946 = .ok (.iadd, 1) := by decide +kernel
theorem dL_law_947 : decode cL_law 947 = .ok (.iaload, 1) := by decide +kernel
theorem dL_law_948 : decode cL_law 948 = .ok (.aload_n 0, 1) := by decide +kernel
theorem dL_law_949 : decode cL_law 949 = .ok (.iload_n 3, 1) := by decide +kernel
theorem dL_law_950 : decode cL_law 950 = .ok (.iconst 2, 1) := by decide +kernel
theorem dL_law_951 : decode cL_law 951 = .ok (.iadd, 1) := by decide +kernel
theorem dL_law_952 : decode cL_law 952 = .ok (.iaload, 1) := by decide +kernel
theorem dL_law_953 : decode cL_law 953 = .ok (.aload_n 0, 1) := by decide +kernel
theorem dL_law_954 : decode cL_law 954 = .ok (.iload_n 3, 1) := by decide +kernel
theorem dL_law_955 : decode cL_law 955 = .ok (.iconst 3, 1) := by decide +kernel
theorem dL_law_956 : decode cL_law 956 = .ok (.iadd, 1) := by decide +kernel
theorem dL_law_957 : decode cL_law 957 = .ok (.iaload, 1) := by decide +kernel
theorem dL_law_958 : decode cL_law 958 = .ok (.aload_n 0, 1) := by decide +kernel
theorem dL_law_959 : decode cL_law 959 = .ok (.iload_n 3, 1) := by decide +kernel
theorem dL_law_960 : decode cL_law 960 = .ok (.iconst 4, 1) := by decide +kernel
theorem dL_law_961 : decode cL_law 961 = .ok (.iadd, 1) := by decide +kernel
theorem dL_law_962 : decode cL_law 962 = .ok (.iaload, 1) := by decide +kernel
theorem dL_law_963 : decode cL_law 963 = .ok (.invokevirtual 102, 3) := by decide +kernel
theorem dL_law_966 : decode cL_law 966 = .ok (.aload_n 2, 1) := by decide +kernel
theorem dL_law_967 : decode cL_law 967 = .ok (.aload_n 0, 1) := by decide +kernel
theorem dL_law_968 : decode cL_law 968 = .ok (.iload_n 3, 1) := by decide +kernel
theorem dL_law_969 : decode cL_law 969 = .ok (.iconst 1, 1) := by decide +kernel
theorem dL_law_970 : decode cL_law 970 = .ok (.iadd, 1) := by decide +kernel
theorem dL_law_971 : decode cL_law 971 = .ok (.iaload, 1) := by decide +kernel
theorem dL_law_972 : decode cL_law 972 = .ok (.aload_n 0, 1) := by decide +kernel
theorem dL_law_973 : decode cL_law 973 = .ok (.iload_n 3, 1) := by decide +kernel
theorem dL_law_974 : decode cL_law 974 = .ok (.iconst 2, 1) := by decide +kernel
theorem dL_law_975 : decode cL_law 975 = .ok (.iadd, 1) := by decide +kernel
theorem dL_law_976 : decode cL_law 976 = .ok (.iaload, 1) := by decide +kernel
theorem dL_law_977 : decode cL_law 977 = .ok (.aload_n 0, 1) := by decide +kernel
theorem dL_law_978 : decode cL_law 978 = .ok (.iload_n 3, 1) := by decide +kernel
theorem dL_law_979 : decode cL_law 979 = .ok (.iconst 3, 1) := by decide +kernel
theorem dL_law_980 : decode cL_law 980 = .ok (.iadd, 1) := by decide +kernel
theorem dL_law_981 : decode cL_law 981 = .ok (.iaload, 1) := by decide +kernel
theorem dL_law_982 : decode cL_law 982 = .ok (.aload_n 0, 1) := by decide +kernel
theorem dL_law_983 : decode cL_law 983 = .ok (.iload_n 3, 1) := by decide +kernel
theorem dL_law_984 : decode cL_law 984 = .ok (.iconst 4, 1) := by decide +kernel
theorem dL_law_985 : decode cL_law 985 = .ok (.iadd, 1) := by decide +kernel
theorem dL_law_986 : decode cL_law 986 = .ok (.iaload, 1) := by decide +kernel
theorem dL_law_987 : decode cL_law 987 = .ok (.invokevirtual 105, 3) := by decide +kernel
theorem dL_law_990 : decode cL_law 990 = .ok (.if_icmp .eq 500, 3) := by decide +kernel
theorem dL_law_993 : decode cL_law 993 = .ok (.iconst 0, 1) := by decide +kernel
theorem dL_law_994 : decode cL_law 994 = .ok (.ireturn, 1) := by decide +kernel
theorem dL_law_995 : decode cL_law 995 = .ok (.aload_n 1, 1) := by decide +kernel
theorem dL_law_996 : decode cL_law 996 = .ok (.aload_n 0, 1) := by decide +kernel
theorem dL_law_997 : decode cL_law 997 = .ok (.iload_n 3, 1) := by decide +kernel
theorem dL_law_998 : decode cL_law 998 = .ok (.iconst 1, 1) := by decide +kernel
theorem dL_law_999 : decode cL_law 999 = .ok (.iadd, 1) := by decide +kernel
theorem dL_law_1000 : decode cL_law 1000 = .ok (.iaload, 1) := by decide +kernel
theorem dL_law_1001 : decode cL_law 1001 = .ok (.aload_n 0, 1) := by decide +kernel
theorem dL_law_1002 : decode cL_law 1002 = .ok (.iload_n 3, 1) := by decide +kernel
theorem dL_law_1003 : decode cL_law 1003 = .ok (.iconst 2, 1) := by decide +kernel
theorem dL_law_1004 : decode cL_law 1004 = .ok (.iadd, 1) := by decide +kernel
theorem dL_law_1005 : decode cL_law 1005 = .ok (.iaload, 1) := by decide +kernel
theorem dL_law_1006 : decode cL_law 1006 = .ok (.aload_n 0, 1) := by decide +kernel
theorem dL_law_1007 : decode cL_law 1007 = .ok (.iload_n 3, 1) := by decide +kernel
theorem dL_law_1008 : decode cL_law 1008 = .ok (.iconst 3, 1) := by decide +kernel
theorem dL_law_1009 : decode cL_law 1009 = .ok (.iadd, 1) := by decide +kernel
theorem dL_law_1010 : decode cL_law 1010 = .ok (.iaload, 1) := by decide +kernel
theorem dL_law_1011 : decode cL_law 1011 = .ok (.aload_n 0, 1) := by decide +kernel
theorem dL_law_1012 : decode cL_law 1012 = .ok (.iload_n 3, 1) := by decide +kernel
theorem dL_law_1013 : decode cL_law 1013 = .ok (.iconst 4, 1) := by decide +kernel
theorem dL_law_1014 : decode cL_law 1014 = .ok (.iadd, 1) := by decide +kernel
theorem dL_law_1015 : decode cL_law 1015 = .ok (.iaload, 1) := by decide +kernel
theorem dL_law_1016 : decode cL_law 1016 = .ok (.invokevirtual 106, 3) := by decide +kernel
theorem dL_law_1019 : decode cL_law 1019 = .ok (.aload_n 2, 1) := by decide +kernel
theorem dL_law_1020 : decode cL_law 1020 = .ok (.aload_n 0, 1) := by decide +kernel
theorem dL_law_1021 : decode cL_law 1021 = .ok (.iload_n 3, 1) := by decide +kernel
theorem dL_law_1022 : decode cL_law 1022 = .ok (.iconst 1, 1) := by decide +kernel
theorem dL_law_1023 : decode cL_law 1023 = .ok (.iadd, 1) := by decide +kernel
theorem dL_law_1024 : decode cL_law 1024 = .ok (.iaload, 1) := by decide +kernel
theorem dL_law_1025 : decode cL_law 1025 = .ok (.aload_n 0, 1) := by decide +kernel
theorem dL_law_1026 : decode cL_law 1026 = .ok (.iload_n 3, 1) := by decide +kernel
theorem dL_law_1027 : decode cL_law 1027 = .ok (.iconst 2, 1) := by decide +kernel
theorem dL_law_1028 : decode cL_law 1028 = .ok (.iadd, 1) := by decide +kernel
theorem dL_law_1029 : decode cL_law 1029 = .ok (.iaload, 1) := by decide +kernel
theorem dL_law_1030 : decode cL_law 1030 = .ok (.aload_n 0, 1) := by decide +kernel
theorem dL_law_1031 : decode cL_law 1031 = .ok (.iload_n 3, 1) := by decide +kernel
theorem dL_law_1032 : decode cL_law 1032 = .ok (.iconst 3, 1) := by decide +kernel
theorem dL_law_1033 : decode cL_law 1033 = .ok (.iadd, 1) := by decide +kernel
theorem dL_law_1034 : decode cL_law 1034 = .ok (.iaload, 1) := by decide +kernel
theorem dL_law_1035 : decode cL_law 1035 = .ok (.aload_n 0, 1) := by decide +kernel
theorem dL_law_1036 : decode cL_law 1036 = .ok (.iload_n 3, 1) := by decide +kernel
theorem dL_law_1037 : decode cL_law 1037 = .ok (.iconst 4, 1) := by decide +kernel
theorem dL_law_1038 : decode cL_law 1038 = .ok (.iadd, 1) := by decide +kernel
theorem dL_law_1039 : decode cL_law 1039 = .ok (.iaload, 1) := by decide +kernel
theorem dL_law_1040 : decode cL_law 1040 = .ok (.invokevirtual 109, 3) := by decide +kernel
theorem dL_law_1043 : decode cL_law 1043 = .ok (.lcmp, 1) := by decide +kernel
theorem dL_law_1044 : decode cL_law 1044 = .ok (.ifCond .eq 446, 3) := by decide +kernel
theorem dL_law_1047 : decode cL_law 1047 = .ok (.iconst 0, 1) := by decide +kernel
theorem dL_law_1048 : decode cL_law 1048 = .ok (.ireturn, 1) := by decide +kernel
theorem dL_law_1049 : decode cL_law 1049 = .ok (.aload_n 1, 1) := by decide +kernel
theorem dL_law_1050 : decode cL_law 1050 = .ok (.aload_n 0, 1) := by decide +kernel
theorem dL_law_1051 : decode cL_law 1051 = .ok (.iload_n 3, 1) := by decide +kernel
theorem dL_law_1052 : decode cL_law 1052 = .ok (.iconst 1, 1) := by decide +kernel
theorem dL_law_1053 : decode cL_law 1053 = .ok (.iadd, 1) := by decide +kernel
theorem dL_law_1054 : decode cL_law 1054 = .ok (.iaload, 1) := by decide +kernel
theorem dL_law_1055 : decode cL_law 1055 = .ok (.aload_n 0, 1) := by decide +kernel
theorem dL_law_1056 : decode cL_law 1056 = .ok (.iload_n 3, 1) := by decide +kernel
theorem dL_law_1057 : decode cL_law 1057 = .ok (.iconst 2, 1) := by decide +kernel
theorem dL_law_1058 : decode cL_law 1058 = .ok (.iadd, 1) := by decide +kernel
theorem dL_law_1059 : decode cL_law 1059 = .ok (.iaload, 1) := by decide +kernel
theorem dL_law_1060 : decode cL_law 1060 = .ok (.invokevirtual 110, 3) := by decide +kernel
theorem dL_law_1063 : decode cL_law 1063 = .ok (.aload_n 2, 1) := by decide +kernel
theorem dL_law_1064 : decode cL_law 1064 = .ok (.aload_n 0, 1) := by decide +kernel
theorem dL_law_1065 : decode cL_law 1065 = .ok (.iload_n 3, 1) := by decide +kernel
theorem dL_law_1066 : decode cL_law 1066 = .ok (.iconst 1, 1) := by decide +kernel
theorem dL_law_1067 : decode cL_law 1067 = .ok (.iadd, 1) := by decide +kernel
theorem dL_law_1068 : decode cL_law 1068 = .ok (.iaload, 1) := by decide +kernel
theorem dL_law_1069 : decode cL_law 1069 = .ok (.aload_n 0, 1) := by decide +kernel
theorem dL_law_1070 : decode cL_law 1070 = .ok (.iload_n 3, 1) := by decide +kernel
theorem dL_law_1071 : decode cL_law 1071 = .ok (.iconst 2, 1) := by decide +kernel
theorem dL_law_1072 : decode cL_law 1072 = .ok (.iadd, 1) := by decide +kernel
theorem dL_law_1073 : decode cL_law 1073 = .ok (.iaload, 1) := by decide +kernel
theorem dL_law_1074 : decode cL_law 1074 = .ok (.invokevirtual 114, 3) := by decide +kernel
theorem dL_law_1077 : decode cL_law 1077 = .ok (.lcmp, 1) := by decide +kernel
theorem dL_law_1078 : decode cL_law 1078 = .ok (.ifCond .eq 412, 3) := by decide +kernel
theorem dL_law_1081 : decode cL_law 1081 = .ok (.iconst 0, 1) := by decide +kernel
theorem dL_law_1082 : decode cL_law 1082 = .ok (.ireturn, 1) := by decide +kernel
theorem dL_law_1083 : decode cL_law 1083 = .ok (.aload_n 1, 1) := by decide +kernel
theorem dL_law_1084 : decode cL_law 1084 = .ok (.aload_n 0, 1) := by decide +kernel
theorem dL_law_1085 : decode cL_law 1085 = .ok (.iload_n 3, 1) := by decide +kernel
theorem dL_law_1086 : decode cL_law 1086 = .ok (.iconst 1, 1) := by decide +kernel
theorem dL_law_1087 : decode cL_law 1087 = .ok (.iadd, 1) := by decide +kernel
theorem dL_law_1088 : decode cL_law 1088 = .ok (.iaload, 1) := by decide +kernel
theorem dL_law_1089 : decode cL_law 1089 = .ok (.aload_n 0, 1) := by decide +kernel
theorem dL_law_1090 : decode cL_law 1090 = .ok (.iload_n 3, 1) := by decide +kernel
theorem dL_law_1091 : decode cL_law 1091 = .ok (.iconst 2, 1) := by decide +kernel
theorem dL_law_1092 : decode cL_law 1092 = .ok (.iadd, 1) := by decide +kernel
theorem dL_law_1093 : decode cL_law 1093 = .ok (.iaload, 1) := by decide +kernel
theorem dL_law_1094 : decode cL_law 1094 = .ok (.invokevirtual 115, 3) := by decide +kernel
theorem dL_law_1097 : decode cL_law 1097 = .ok (.aload_n 2, 1) := by decide +kernel
theorem dL_law_1098 : decode cL_law 1098 = .ok (.aload_n 0, 1) := by decide +kernel
theorem dL_law_1099 : decode cL_law 1099 = .ok (.iload_n 3, 1) := by decide +kernel
theorem dL_law_1100 : decode cL_law 1100 = .ok (.iconst 1, 1) := by decide +kernel
theorem dL_law_1101 : decode cL_law 1101 = .ok (.iadd, 1) := by decide +kernel
theorem dL_law_1102 : decode cL_law 1102 = .ok (.iaload, 1) := by decide +kernel
theorem dL_law_1103 : decode cL_law 1103 = .ok (.aload_n 0, 1) := by decide +kernel
theorem dL_law_1104 : decode cL_law 1104 = .ok (.iload_n 3, 1) := by decide +kernel
theorem dL_law_1105 : decode cL_law 1105 = .ok (.iconst 2, 1) := by decide +kernel
theorem dL_law_1106 : decode cL_law 1106 = .ok (.iadd, 1) := by decide +kernel
theorem dL_law_1107 : decode cL_law 1107 = .ok (.iaload, 1) := by decide +kernel
theorem dL_law_1108 : decode cL_law 1108 = .ok (.invokevirtual 118, 3) := by decide +kernel
theorem dL_law_1111 : decode cL_law 1111 = .ok (.if_icmp .eq 379, 3) := by decide +kernel
theorem dL_law_1114 : decode cL_law 1114 = .ok (.iconst 0, 1) := by decide +kernel
theorem dL_law_1115 : decode cL_law 1115 = .ok (.ireturn, 1) := by decide +kernel
theorem dL_law_1116 : decode cL_law 1116 = .ok (.aload_n 1, 1) := by decide +kernel
theorem dL_law_1117 : decode cL_law 1117 = .ok (.aload_n 0, 1) := by decide +kernel
theorem dL_law_1118 : decode cL_law 1118 = .ok (.iload_n 3, 1) := by decide +kernel
theorem dL_law_1119 : decode cL_law 1119 = .ok (.iconst 1, 1) := by decide +kernel
theorem dL_law_1120 : decode cL_law 1120 = .ok (.iadd, 1) := by decide +kernel
theorem dL_law_1121 : decode cL_law 1121 = .ok (.iaload, 1) := by decide +kernel
theorem dL_law_1122 : decode cL_law 1122 = .ok (.invokevirtual 119, 3) := by decide +kernel
theorem dL_law_1125 : decode cL_law 1125 = .ok (.aload_n 2, 1) := by decide +kernel
theorem dL_law_1126 : decode cL_law 1126 = .ok (.aload_n 0, 1) := by decide +kernel
theorem dL_law_1127 : decode cL_law 1127 = .ok (.iload_n 3, 1) := by decide +kernel
theorem dL_law_1128 : decode cL_law 1128 = .ok (.iconst 1, 1) := by decide +kernel
theorem dL_law_1129 : decode cL_law 1129 = .ok (.iadd, 1) := by decide +kernel
theorem dL_law_1130 : decode cL_law 1130 = .ok (.iaload, 1) := by decide +kernel
theorem dL_law_1131 : decode cL_law 1131 = .ok (.invokevirtual 122, 3) := by decide +kernel
theorem dL_law_1134 : decode cL_law 1134 = .ok (.if_icmp .eq 356, 3) := by decide +kernel
theorem dL_law_1137 : decode cL_law 1137 = .ok (.iconst 0, 1) := by decide +kernel
theorem dL_law_1138 : decode cL_law 1138 = .ok (.ireturn, 1) := by decide +kernel
theorem dL_law_1139 : decode cL_law 1139 = .ok (.aload_n 1, 1) := by decide +kernel
theorem dL_law_1140 : decode cL_law 1140 = .ok (.aload_n 0, 1) := by decide +kernel
theorem dL_law_1141 : decode cL_law 1141 = .ok (.iload_n 3, 1) := by decide +kernel
theorem dL_law_1142 : decode cL_law 1142 = .ok (.iconst 1, 1) := by decide +kernel
theorem dL_law_1143 : decode cL_law 1143 = .ok (.iadd, 1) := by decide +kernel
theorem dL_law_1144 : decode cL_law 1144 = .ok (.iaload, 1) := by decide +kernel
theorem dL_law_1145 : decode cL_law 1145 = .ok (.aload_n 0, 1) := by decide +kernel
theorem dL_law_1146 : decode cL_law 1146 = .ok (.iload_n 3, 1) := by decide +kernel
theorem dL_law_1147 : decode cL_law 1147 = .ok (.iconst 2, 1) := by decide +kernel
theorem dL_law_1148 : decode cL_law 1148 = .ok (.iadd, 1) := by decide +kernel
theorem dL_law_1149 : decode cL_law 1149 = .ok (.iaload, 1) := by decide +kernel
theorem dL_law_1150 : decode cL_law 1150 = .ok (.invokevirtual 123, 3) := by decide +kernel
theorem dL_law_1153 : decode cL_law 1153 = .ok (.aload_n 2, 1) := by decide +kernel
theorem dL_law_1154 : decode cL_law 1154 = .ok (.aload_n 0, 1) := by decide +kernel
theorem dL_law_1155 : decode cL_law 1155 = .ok (.iload_n 3, 1) := by decide +kernel
theorem dL_law_1156 : decode cL_law 1156 = .ok (.iconst 1, 1) := by decide +kernel
theorem dL_law_1157 : decode cL_law 1157 = .ok (.iadd, 1) := by decide +kernel
theorem dL_law_1158 : decode cL_law 1158 = .ok (.iaload, 1) := by decide +kernel
theorem dL_law_1159 : decode cL_law 1159 = .ok (.aload_n 0, 1) := by decide +kernel
theorem dL_law_1160 : decode cL_law 1160 = .ok (.iload_n 3, 1) := by decide +kernel
theorem dL_law_1161 : decode cL_law 1161 = .ok (.iconst 2, 1) := by decide +kernel
theorem dL_law_1162 : decode cL_law 1162 = .ok (.iadd, 1) := by decide +kernel
theorem dL_law_1163 : decode cL_law 1163 = .ok (.iaload, 1) := by decide +kernel
theorem dL_law_1164 : decode cL_law 1164 = .ok (.invokevirtual 126, 3) := by decide +kernel
theorem dL_law_1167 : decode cL_law 1167 = .ok (.if_icmp .eq 323, 3) := by decide +kernel
theorem dL_law_1170 : decode cL_law 1170 = .ok (.iconst 0, 1) := by decide +kernel
theorem dL_law_1171 : decode cL_law 1171 = .ok (.ireturn, 1) := by decide +kernel
theorem dL_law_1172 : decode cL_law 1172 = .ok (.aload_n 1, 1) := by decide +kernel
theorem dL_law_1173 : decode cL_law 1173 = .ok (.invokevirtual 127, 3) := by decide +kernel
theorem dL_law_1176 : decode cL_law 1176 = .ok (.aload_n 2, 1) := by decide +kernel
theorem dL_law_1177 : decode cL_law 1177 = .ok (.invokevirtual 130, 3) := by decide +kernel
theorem dL_law_1180 : decode cL_law 1180 = .ok (.if_icmp .eq 310, 3) := by decide +kernel
theorem dL_law_1183 : decode cL_law 1183 = .ok (.iconst 0, 1) := by decide +kernel
theorem dL_law_1184 : decode cL_law 1184 = .ok (.ireturn, 1) := by decide +kernel
theorem dL_law_1185 : decode cL_law 1185 = .ok (.aload_n 1, 1) := by decide +kernel
theorem dL_law_1186 : decode cL_law 1186 = .ok (.aload_n 0, 1) := by decide +kernel
theorem dL_law_1187 : decode cL_law 1187 = .ok (.iload_n 3, 1) := by decide +kernel
theorem dL_law_1188 : decode cL_law 1188 = .ok (.iconst 1, 1) := by decide +kernel
theorem dL_law_1189 : decode cL_law 1189 = .ok (.iadd, 1) := by decide +kernel
theorem dL_law_1190 : decode cL_law 1190 = .ok (.iaload, 1) := by decide +kernel
theorem dL_law_1191 : decode cL_law 1191 = .ok (.aload_n 0, 1) := by decide +kernel
theorem dL_law_1192 : decode cL_law 1192 = .ok (.iload_n 3, 1) := by decide +kernel
theorem dL_law_1193 : decode cL_law 1193 = .ok (.iconst 2, 1) := by decide +kernel
theorem dL_law_1194 : decode cL_law 1194 = .ok (.iadd, 1) := by decide +kernel
theorem dL_law_1195 : decode cL_law 1195 = .ok (.iaload, 1) := by decide +kernel
theorem dL_law_1196 : decode cL_law 1196 = .ok (.aload_n 0, 1) := by decide +kernel
theorem dL_law_1197 : decode cL_law 1197 = .ok (.iload_n 3, 1) := by decide +kernel
theorem dL_law_1198 : decode cL_law 1198 = .ok (.iconst 3, 1) := by decide +kernel
theorem dL_law_1199 : decode cL_law 1199 = .ok (.iadd, 1) := by decide +kernel
theorem dL_law_1200 : decode cL_law 1200 = .ok (.iaload, 1) := by decide +kernel
theorem dL_law_1201 : decode cL_law 1201 = .ok (.invokevirtual 131, 3) := by decide +kernel
theorem dL_law_1204 : decode cL_law 1204 = .ok (.aload_n 2, 1) := by decide +kernel
theorem dL_law_1205 : decode cL_law 1205 = .ok (.aload_n 0, 1) := by decide +kernel
theorem dL_law_1206 : decode cL_law 1206 = .ok (.iload_n 3, 1) := by decide +kernel
theorem dL_law_1207 : decode cL_law 1207 = .ok (.iconst 1, 1) := by decide +kernel
theorem dL_law_1208 : decode cL_law 1208 = .ok (.iadd, 1) := by decide +kernel
theorem dL_law_1209 : decode cL_law 1209 = .ok (.iaload, 1) := by decide +kernel
theorem dL_law_1210 : decode cL_law 1210 = .ok (.aload_n 0, 1) := by decide +kernel
theorem dL_law_1211 : decode cL_law 1211 = .ok (.iload_n 3, 1) := by decide +kernel
theorem dL_law_1212 : decode cL_law 1212 = .ok (.iconst 2, 1) := by decide +kernel
theorem dL_law_1213 : decode cL_law 1213 = .ok (.iadd, 1) := by decide +kernel
theorem dL_law_1214 : decode cL_law 1214 = .ok (.iaload, 1) := by decide +kernel
theorem dL_law_1215 : decode cL_law 1215 = .ok (.aload_n 0, 1) := by decide +kernel
theorem dL_law_1216 : decode cL_law 1216 = .ok (.iload_n 3, 1) := by decide +kernel
theorem dL_law_1217 : decode cL_law 1217 = .ok (.iconst 3, 1) := by decide +kernel
theorem dL_law_1218 : decode cL_law 1218 = .ok (.iadd, 1) := by decide +kernel
theorem dL_law_1219 : decode cL_law 1219 = .ok (.iaload, 1) := by decide +kernel
theorem dL_law_1220 : decode cL_law 1220 = .ok (.invokevirtual 134, 3) := by decide +kernel
theorem dL_law_1223 : decode cL_law 1223 = .ok (.if_icmp .eq 267, 3) := by decide +kernel
theorem dL_law_1226 : decode cL_law 1226 = .ok (.iconst 0, 1) := by decide +kernel
theorem dL_law_1227 : decode cL_law 1227 = .ok (.ireturn, 1) := by decide +kernel
theorem dL_law_1228 : decode cL_law 1228 = .ok (.aload_n 1, 1) := by decide +kernel
theorem dL_law_1229 : decode cL_law 1229 = .ok (.invokevirtual 135, 3) := by decide +kernel
theorem dL_law_1232 : decode cL_law 1232 = .ok (.aload_n 2, 1) := by decide +kernel
theorem dL_law_1233 : decode cL_law 1233 = .ok (.invokevirtual 138, 3) := by decide +kernel
theorem dL_law_1236 : decode cL_law 1236 = .ok (.if_icmp .eq 254, 3) := by decide +kernel
theorem dL_law_1239 : decode cL_law 1239 = .ok (.iconst 0, 1) := by decide +kernel
theorem dL_law_1240 : decode cL_law 1240 = .ok (.ireturn, 1) := by decide +kernel
theorem dL_law_1241 : decode cL_law 1241 = .ok (.aload_n 1, 1) := by decide +kernel
theorem dL_law_1242 : decode cL_law 1242 = .ok (.invokevirtual 139, 3) := by decide +kernel
theorem dL_law_1245 : decode cL_law 1245 = .ok (.aload_n 2, 1) := by decide +kernel
theorem dL_law_1246 : decode cL_law 1246 = .ok (.invokevirtual 142, 3) := by decide +kernel
theorem dL_law_1249 : decode cL_law 1249 = .ok (.if_icmp .eq 241, 3) := by decide +kernel
theorem dL_law_1252 : decode cL_law 1252 = .ok (.iconst 0, 1) := by decide +kernel
theorem dL_law_1253 : decode cL_law 1253 = .ok (.ireturn, 1) := by decide +kernel
theorem dL_law_1254 : decode cL_law 1254 = .ok (.aload_n 1, 1) := by decide +kernel
theorem dL_law_1255 : decode cL_law 1255 = .ok (.aload_n 0, 1) := by decide +kernel
theorem dL_law_1256 : decode cL_law 1256 = .ok (.iload_n 3, 1) := by decide +kernel
theorem dL_law_1257 : decode cL_law 1257 = .ok (.iconst 1, 1) := by decide +kernel
theorem dL_law_1258 : decode cL_law 1258 = .ok (.iadd, 1) := by decide +kernel
theorem dL_law_1259 : decode cL_law 1259 = .ok (.iaload, 1) := by decide +kernel
theorem dL_law_1260 : decode cL_law 1260 = .ok (.invokevirtual 143, 3) := by decide +kernel
theorem dL_law_1263 : decode cL_law 1263 = .ok (.aload_n 2, 1) := by decide +kernel
theorem dL_law_1264 : decode cL_law 1264 = .ok (.aload_n 0, 1) := by decide +kernel
theorem dL_law_1265 : decode cL_law 1265 = .ok (.iload_n 3, 1) := by decide +kernel
theorem dL_law_1266 : decode cL_law 1266 = .ok (.iconst 1, 1) := by decide +kernel
theorem dL_law_1267 : decode cL_law 1267 = .ok (.iadd, 1) := by decide +kernel
theorem dL_law_1268 : decode cL_law 1268 = .ok (.iaload, 1) := by decide +kernel
theorem dL_law_1269 : decode cL_law 1269 = .ok (.invokevirtual 146, 3) := by decide +kernel
theorem dL_law_1272 : decode cL_law 1272 = .ok (.if_icmp .eq 218, 3) := by decide +kernel
theorem dL_law_1275 : decode cL_law 1275 = .ok (.iconst 0, 1) := by decide +kernel
theorem dL_law_1276 : decode cL_law 1276 = .ok (.ireturn, 1) := by decide +kernel
theorem dL_law_1277 : decode cL_law 1277 = .ok (.aload_n 1, 1) := by decide +kernel
theorem dL_law_1278 : decode cL_law 1278 = .ok (.aload_n 0, 1) := by decide +kernel
theorem dL_law_1279 : decode cL_law 1279 = .ok (.iload_n 3, 1) := by decide +kernel
theorem dL_law_1280 : decode cL_law 1280 = .ok (.iconst 1, 1) := by decide +kernel
theorem dL_law_1281 : decode cL_law 1281 = .ok (.iadd, 1) := by decide +kernel
theorem dL_law_1282 : decode cL_law 1282 = .ok (.iaload, 1) := by decide +kernel
theorem dL_law_1283 : decode cL_law 1283 = .ok (.aload_n 0, 1) := by decide +kernel
theorem dL_law_1284 : decode cL_law 1284 = .ok (.iload_n 3, 1) := by decide +kernel
theorem dL_law_1285 : decode cL_law 1285 = .ok (.iconst 2, 1) := by decide +kernel
theorem dL_law_1286 : decode cL_law 1286 = .ok (.iadd, 1) := by decide +kernel
theorem dL_law_1287 : decode cL_law 1287 = .ok (.iaload, 1) := by decide +kernel
theorem dL_law_1288 : decode cL_law 1288 = .ok (.aload_n 0, 1) := by decide +kernel
theorem dL_law_1289 : decode cL_law 1289 = .ok (.iload_n 3, 1) := by decide +kernel
theorem dL_law_1290 : decode cL_law 1290 = .ok (.iconst 3, 1) := by decide +kernel
theorem dL_law_1291 : decode cL_law 1291 = .ok (.iadd, 1) := by decide +kernel
theorem dL_law_1292 : decode cL_law 1292 = .ok (.iaload, 1) := by decide +kernel
theorem dL_law_1293 : decode cL_law 1293 = .ok (.invokevirtual 147, 3) := by decide +kernel
theorem dL_law_1296 : decode cL_law 1296 = .ok (.aload_n 2, 1) := by decide +kernel
theorem dL_law_1297 : decode cL_law 1297 = .ok (.aload_n 0, 1) := by decide +kernel
theorem dL_law_1298 : decode cL_law 1298 = .ok (.iload_n 3, 1) := by decide +kernel
theorem dL_law_1299 : decode cL_law 1299 = .ok (.iconst 1, 1) := by decide +kernel
theorem dL_law_1300 : decode cL_law 1300 = .ok (.iadd, 1) := by decide +kernel
theorem dL_law_1301 : decode cL_law 1301 = .ok (.iaload, 1) := by decide +kernel
theorem dL_law_1302 : decode cL_law 1302 = .ok (.aload_n 0, 1) := by decide +kernel
theorem dL_law_1303 : decode cL_law 1303 = .ok (.iload_n 3, 1) := by decide +kernel
theorem dL_law_1304 : decode cL_law 1304 = .ok (.iconst 2, 1) := by decide +kernel
theorem dL_law_1305 : decode cL_law 1305 = .ok (.iadd, 1) := by decide +kernel
theorem dL_law_1306 : decode cL_law 1306 = .ok (.iaload, 1) := by decide +kernel
theorem dL_law_1307 : decode cL_law 1307 = .ok (.aload_n 0, 1) := by decide +kernel
theorem dL_law_1308 : decode cL_law 1308 = .ok (.iload_n 3, 1) := by decide +kernel
theorem dL_law_1309 : decode cL_law 1309 = .ok (.iconst 3, 1) := by decide +kernel
theorem dL_law_1310 : decode cL_law 1310 = .ok (.iadd, 1) := by decide +kernel
theorem dL_law_1311 : decode cL_law 1311 = .ok (.iaload, 1) := by decide +kernel
theorem dL_law_1312 : decode cL_law 1312 = .ok (.invokevirtual 150, 3) := by decide +kernel
theorem dL_law_1315 : decode cL_law 1315 = .ok (.if_icmp .eq 175, 3) := by decide +kernel
theorem dL_law_1318 : decode cL_law 1318 = .ok (.iconst 0, 1) := by decide +kernel
theorem dL_law_1319 : decode cL_law 1319 = .ok (.ireturn, 1) := by decide +kernel
theorem dL_law_1320 : decode cL_law 1320 = .ok (.aload_n 1, 1) := by decide +kernel
theorem dL_law_1321 : decode cL_law 1321 = .ok (.aload_n 0, 1) := by decide +kernel
theorem dL_law_1322 : decode cL_law 1322 = .ok (.iload_n 3, 1) := by decide +kernel
theorem dL_law_1323 : decode cL_law 1323 = .ok (.iconst 1, 1) := by decide +kernel
theorem dL_law_1324 : decode cL_law 1324 = .ok (.iadd, 1) := by decide +kernel
theorem dL_law_1325 : decode cL_law 1325 = .ok (.iaload, 1) := by decide +kernel
theorem dL_law_1326 : decode cL_law 1326 = .ok (.aload_n 0, 1) := by decide +kernel
theorem dL_law_1327 : decode cL_law 1327 = .ok (.iload_n 3, 1) := by decide +kernel
theorem dL_law_1328 : decode cL_law 1328 = .ok (.iconst 2, 1) := by decide +kernel
theorem dL_law_1329 : decode cL_law 1329 = .ok (.iadd, 1) := by decide +kernel
theorem dL_law_1330 : decode cL_law 1330 = .ok (.iaload, 1) := by decide +kernel
theorem dL_law_1331 : decode cL_law 1331 = .ok (.aload_n 0, 1) := by decide +kernel
theorem dL_law_1332 : decode cL_law 1332 = .ok (.iload_n 3, 1) := by decide +kernel
theorem dL_law_1333 : decode cL_law 1333 = .ok (.iconst 3, 1) := by decide +kernel
theorem dL_law_1334 : decode cL_law 1334 = .ok (.iadd, 1) := by decide +kernel
theorem dL_law_1335 : decode cL_law 1335 = .ok (.iaload, 1) := by decide +kernel
theorem dL_law_1336 : decode cL_law 1336 = .ok (.i2l, 1) := by decide +kernel
theorem dL_law_1337 : decode cL_law 1337 = .ok (.bipush 32, 2) := by decide +kernel
theorem dL_law_1339 : decode cL_law 1339 = .ok (.lshl, 1) := by decide +kernel
theorem dL_law_1340 : decode cL_law 1340 = .ok (.aload_n 0, 1) := by decide +kernel
theorem dL_law_1341 : decode cL_law 1341 = .ok (.iload_n 3, 1) := by decide +kernel
theorem dL_law_1342 : decode cL_law 1342 = .ok (.iconst 4, 1) := by decide +kernel
theorem dL_law_1343 : decode cL_law 1343 = .ok (.iadd, 1) := by decide +kernel
theorem dL_law_1344 : decode cL_law 1344 = .ok (.iaload, 1) := by decide +kernel
theorem dL_law_1345 : decode cL_law 1345 = .ok (.i2l, 1) := by decide +kernel
theorem dL_law_1346 : decode cL_law 1346 = .ok (.ldc2_w 151, 3) := by decide +kernel
theorem dL_law_1349 : decode cL_law 1349 = .ok (.land, 1) := by decide +kernel
theorem dL_law_1350 : decode cL_law 1350 = .ok (.lor, 1) := by decide +kernel
theorem dL_law_1351 : decode cL_law 1351 = .ok (.invokevirtual 153, 3) := by decide +kernel
theorem dL_law_1354 : decode cL_law 1354 = .ok (.aload_n 2, 1) := by decide +kernel
theorem dL_law_1355 : decode cL_law 1355 = .ok (.aload_n 0, 1) := by decide +kernel
theorem dL_law_1356 : decode cL_law 1356 = .ok (.iload_n 3, 1) := by decide +kernel
theorem dL_law_1357 : decode cL_law 1357 = .ok (.iconst 1, 1) := by decide +kernel
theorem dL_law_1358 : decode cL_law 1358 = .ok (.iadd, 1) := by decide +kernel
theorem dL_law_1359 : decode cL_law 1359 = .ok (.iaload, 1) := by decide +kernel
theorem dL_law_1360 : decode cL_law 1360 = .ok (.aload_n 0, 1) := by decide +kernel
theorem dL_law_1361 : decode cL_law 1361 = .ok (.iload_n 3, 1) := by decide +kernel
theorem dL_law_1362 : decode cL_law 1362 = .ok (.iconst 2, 1) := by decide +kernel
theorem dL_law_1363 : decode cL_law 1363 = .ok (.iadd, 1) := by decide +kernel
theorem dL_law_1364 : decode cL_law 1364 = .ok (.iaload, 1) := by decide +kernel
theorem dL_law_1365 : decode cL_law 1365 = .ok (.aload_n 0, 1) := by decide +kernel
theorem dL_law_1366 : decode cL_law 1366 = .ok (.iload_n 3, 1) := by decide +kernel
theorem dL_law_1367 : decode cL_law 1367 = .ok (.iconst 3, 1) := by decide +kernel
theorem dL_law_1368 : decode cL_law 1368 = .ok (.iadd, 1) := by decide +kernel
theorem dL_law_1369 : decode cL_law 1369 = .ok (.iaload, 1) := by decide +kernel
theorem dL_law_1370 : decode cL_law 1370 = .ok (.i2l, 1) := by decide +kernel
theorem dL_law_1371 : decode cL_law 1371 = .ok (.bipush 32, 2) := by decide +kernel
theorem dL_law_1373 : decode cL_law 1373 = .ok (.lshl, 1) := by decide +kernel
theorem dL_law_1374 : decode cL_law 1374 = .ok (.aload_n 0, 1) := by decide +kernel
theorem dL_law_1375 : decode cL_law 1375 = .ok (.iload_n 3, 1) := by decide +kernel
theorem dL_law_1376 : decode cL_law 1376 = .ok (.iconst 4, 1) := by decide +kernel
theorem dL_law_1377 : decode cL_law 1377 = .ok (.iadd, 1) := by decide +kernel
theorem dL_law_1378 : decode cL_law 1378 = .ok (.iaload, 1) := by decide +kernel
theorem dL_law_1379 : decode cL_law 1379 = .ok (.i2l, 1) := by decide +kernel
theorem dL_law_1380 : decode cL_law 1380 = .ok (.ldc2_w 151, 3) := by decide +kernel
theorem dL_law_1383 : decode cL_law 1383 = .ok (.land, 1) := by decide +kernel
theorem dL_law_1384 : decode cL_law 1384 = .ok (.lor, 1) := by decide +kernel
theorem dL_law_1385 : decode cL_law 1385 = .ok (.invokevirtual 157, 3) := by decide +kernel
theorem dL_law_1388 : decode cL_law 1388 = .ok (.if_icmp .eq 102, 3) := by decide +kernel
theorem dL_law_1391 : decode cL_law 1391 = .ok (.iconst 0, 1) := by decide +kernel
theorem dL_law_1392 : decode cL_law 1392 = .ok (.ireturn, 1) := by decide +kernel
theorem dL_law_1393 : decode cL_law 1393 = .ok (.aload_n 1, 1) := by decide +kernel
theorem dL_law_1394 : decode cL_law 1394 = .ok (.aload_n 0, 1) := by decide +kernel
theorem dL_law_1395 : decode cL_law 1395 = .ok (.iload_n 3, 1) := by decide +kernel
theorem dL_law_1396 : decode cL_law 1396 = .ok (.iconst 1, 1) := by decide +kernel
theorem dL_law_1397 : decode cL_law 1397 = .ok (.iadd, 1) := by decide +kernel
theorem dL_law_1398 : decode cL_law 1398 = .ok (.iaload, 1) := by decide +kernel
theorem dL_law_1399 : decode cL_law 1399 = .ok (.aload_n 0, 1) := by decide +kernel
theorem dL_law_1400 : decode cL_law 1400 = .ok (.iload_n 3, 1) := by decide +kernel
theorem dL_law_1401 : decode cL_law 1401 = .ok (.iconst 2, 1) := by decide +kernel
theorem dL_law_1402 : decode cL_law 1402 = .ok (.iadd, 1) := by decide +kernel
theorem dL_law_1403 : decode cL_law 1403 = .ok (.iaload, 1) := by decide +kernel
theorem dL_law_1404 : decode cL_law 1404 = .ok (.invokevirtual 158, 3) := by decide +kernel
theorem dL_law_1407 : decode cL_law 1407 = .ok (.aload_n 2, 1) := by decide +kernel
theorem dL_law_1408 : decode cL_law 1408 = .ok (.aload_n 0, 1) := by decide +kernel
theorem dL_law_1409 : decode cL_law 1409 = .ok (.iload_n 3, 1) := by decide +kernel
theorem dL_law_1410 : decode cL_law 1410 = .ok (.iconst 1, 1) := by decide +kernel
theorem dL_law_1411 : decode cL_law 1411 = .ok (.iadd, 1) := by decide +kernel
theorem dL_law_1412 : decode cL_law 1412 = .ok (.iaload, 1) := by decide +kernel
theorem dL_law_1413 : decode cL_law 1413 = .ok (.aload_n 0, 1) := by decide +kernel
theorem dL_law_1414 : decode cL_law 1414 = .ok (.iload_n 3, 1) := by decide +kernel
theorem dL_law_1415 : decode cL_law 1415 = .ok (.iconst 2, 1) := by decide +kernel
theorem dL_law_1416 : decode cL_law 1416 = .ok (.iadd, 1) := by decide +kernel
theorem dL_law_1417 : decode cL_law 1417 = .ok (.iaload, 1) := by decide +kernel
theorem dL_law_1418 : decode cL_law 1418 = .ok (.invokevirtual 161, 3) := by decide +kernel
theorem dL_law_1421 : decode cL_law 1421 = .ok (.lcmp, 1) := by decide +kernel
theorem dL_law_1422 : decode cL_law 1422 = .ok (.ifCond .eq 68, 3) := by decide +kernel
theorem dL_law_1425 : decode cL_law 1425 = .ok (.iconst 0, 1) := by decide +kernel
theorem dL_law_1426 : decode cL_law 1426 = .ok (.ireturn, 1) := by decide +kernel
theorem dL_law_1427 : decode cL_law 1427 = .ok (.aload_n 1, 1) := by decide +kernel
theorem dL_law_1428 : decode cL_law 1428 = .ok (.aload_n 0, 1) := by decide +kernel
theorem dL_law_1429 : decode cL_law 1429 = .ok (.iload_n 3, 1) := by decide +kernel
theorem dL_law_1430 : decode cL_law 1430 = .ok (.iconst 1, 1) := by decide +kernel
theorem dL_law_1431 : decode cL_law 1431 = .ok (.iadd, 1) := by decide +kernel
theorem dL_law_1432 : decode cL_law 1432 = .ok (.iaload, 1) := by decide +kernel
theorem dL_law_1433 : decode cL_law 1433 = .ok (.aload_n 0, 1) := by decide +kernel
theorem dL_law_1434 : decode cL_law 1434 = .ok (.iload_n 3, 1) := by decide +kernel
theorem dL_law_1435 : decode cL_law 1435 = .ok (.iconst 2, 1) := by decide +kernel
theorem dL_law_1436 : decode cL_law 1436 = .ok (.iadd, 1) := by decide +kernel
theorem dL_law_1437 : decode cL_law 1437 = .ok (.iaload, 1) := by decide +kernel
theorem dL_law_1438 : decode cL_law 1438 = .ok (.aload_n 0, 1) := by decide +kernel
theorem dL_law_1439 : decode cL_law 1439 = .ok (.iload_n 3, 1) := by decide +kernel
theorem dL_law_1440 : decode cL_law 1440 = .ok (.iconst 3, 1) := by decide +kernel
theorem dL_law_1441 : decode cL_law 1441 = .ok (.iadd, 1) := by decide +kernel
theorem dL_law_1442 : decode cL_law 1442 = .ok (.iaload, 1) := by decide +kernel
theorem dL_law_1443 : decode cL_law 1443 = .ok (.aload_n 0, 1) := by decide +kernel
theorem dL_law_1444 : decode cL_law 1444 = .ok (.iload_n 3, 1) := by decide +kernel
theorem dL_law_1445 : decode cL_law 1445 = .ok (.iconst 4, 1) := by decide +kernel
theorem dL_law_1446 : decode cL_law 1446 = .ok (.iadd, 1) := by decide +kernel
theorem dL_law_1447 : decode cL_law 1447 = .ok (.iaload, 1) := by decide +kernel
theorem dL_law_1448 : decode cL_law 1448 = .ok (.aload_n 0, 1) := by decide +kernel
theorem dL_law_1449 : decode cL_law 1449 = .ok (.iload_n 3, 1) := by decide +kernel
theorem dL_law_1450 : decode cL_law 1450 = .ok (.iconst 5, 1) := by decide +kernel
theorem dL_law_1451 : decode cL_law 1451 = .ok (.iadd, 1) := by decide +kernel
theorem dL_law_1452 : decode cL_law 1452 = .ok (.iaload, 1) := by decide +kernel
theorem dL_law_1453 : decode cL_law 1453 = .ok (.invokevirtual 162, 3) := by decide +kernel
theorem dL_law_1456 : decode cL_law 1456 = .ok (.aload_n 2, 1) := by decide +kernel
theorem dL_law_1457 : decode cL_law 1457 = .ok (.aload_n 0, 1) := by decide +kernel
theorem dL_law_1458 : decode cL_law 1458 = .ok (.iload_n 3, 1) := by decide +kernel
theorem dL_law_1459 : decode cL_law 1459 = .ok (.iconst 1, 1) := by decide +kernel
theorem dL_law_1460 : decode cL_law 1460 = .ok (.iadd, 1) := by decide +kernel
theorem dL_law_1461 : decode cL_law 1461 = .ok (.iaload, 1) := by decide +kernel
theorem dL_law_1462 : decode cL_law 1462 = .ok (.aload_n 0, 1) := by decide +kernel
theorem dL_law_1463 : decode cL_law 1463 = .ok (.iload_n 3, 1) := by decide +kernel
theorem dL_law_1464 : decode cL_law 1464 = .ok (.iconst 2, 1) := by decide +kernel
theorem dL_law_1465 : decode cL_law 1465 = .ok (.iadd, 1) := by decide +kernel
theorem dL_law_1466 : decode cL_law 1466 = .ok (.iaload, 1) := by decide +kernel
theorem dL_law_1467 : decode cL_law 1467 = .ok (.aload_n 0, 1) := by decide +kernel
theorem dL_law_1468 : decode cL_law 1468 = .ok (.iload_n 3, 1) := by decide +kernel
theorem dL_law_1469 : decode cL_law 1469 = .ok (.iconst 3, 1) := by decide +kernel
theorem dL_law_1470 : decode cL_law 1470 = .ok (.iadd, 1) := by decide +kernel
theorem dL_law_1471 : decode cL_law 1471 = .ok (.iaload, 1) := by decide +kernel
theorem dL_law_1472 : decode cL_law 1472 = .ok (.aload_n 0, 1) := by decide +kernel
theorem dL_law_1473 : decode cL_law 1473 = .ok (.iload_n 3, 1) := by decide +kernel
theorem dL_law_1474 : decode cL_law 1474 = .ok (.iconst 4, 1) := by decide +kernel
theorem dL_law_1475 : decode cL_law 1475 = .ok (.iadd, 1) := by decide +kernel
theorem dL_law_1476 : decode cL_law 1476 = .ok (.iaload, 1) := by decide +kernel
theorem dL_law_1477 : decode cL_law 1477 = .ok (.aload_n 0, 1) := by decide +kernel
theorem dL_law_1478 : decode cL_law 1478 = .ok (.iload_n 3, 1) := by decide +kernel
theorem dL_law_1479 : decode cL_law 1479 = .ok (.iconst 5, 1) := by decide +kernel
theorem dL_law_1480 : decode cL_law 1480 = .ok (.iadd, 1) := by decide +kernel
theorem dL_law_1481 : decode cL_law 1481 = .ok (.iaload, 1) := by decide +kernel
theorem dL_law_1482 : decode cL_law 1482 = .ok (.invokevirtual 165, 3) := by decide +kernel
theorem dL_law_1485 : decode cL_law 1485 = .ok (.if_icmp .eq 5, 3) := by decide +kernel
theorem dL_law_1488 : decode cL_law 1488 = .ok (.iconst 0, 1) := by decide +kernel
theorem dL_law_1489 : decode cL_law 1489 = .ok (.ireturn, 1) := by decide +kernel
theorem dL_law_1490 : decode cL_law 1490 = .ok (.iinc 3 7, 3) := by decide +kernel
theorem dL_law_1493 : decode cL_law 1493 = .ok (.goto (-1475), 3) := by decide +kernel
theorem dL_law_1496 : decode cL_law 1496 = .ok (.iconst 1, 1) := by decide +kernel
theorem dL_law_1497 : decode cL_law 1497 = .ok (.ireturn, 1) := by decide +kernel
end
section
/-! ===== A LIGHT LAYER OVER THE KIT: values as (sort, Int), cells as Int rows by number, one judgement 'Ok' that speaks of all of the law's cells at once ===== -/
def tyX_of (k : Nat) : Nat → FieldType := match k with
  | 0 => tyX0
  | 1 => tyX1
  | 2 => tyX2
  | 3 => tyX3
  | 4 => tyX4
  | 5 => tyX5
  | 6 => tyX6
  | 7 => tyX7
  | 8 => tyX8
  | 9 => tyX9
  | _ => tyX10
def TX_of (k : Nat) : u_T := match k with
  | 0 => TX0
  | 1 => TX1
  | 2 => TX2
  | 3 => TX3
  | 4 => TX4
  | 5 => TX5
  | 6 => TX6
  | 7 => TX7
  | 8 => TX8
  | 9 => TX9
  | _ => TX10
def RX_of (k : Nat) : String := match k with
  | 0 => RX0
  | 1 => RX1
  | 2 => RX2
  | 3 => RX3
  | 4 => RX4
  | 5 => RX5
  | 6 => RX6
  | 7 => RX7
  | 8 => RX8
  | 9 => RX9
  | _ => RX10
abbrev tk_V : Type := Nat × Int
def xI (x : Int) : tk_V := (0, x)
def xL (x : Int) : tk_V := (1, x)
def xR (x : Int) : tk_V := (2, x)
def xS (x : Int) : tk_V := (3, x)
def xU : tk_V := (4, 0)
abbrev tk_M : Type := Int → Int → Int
abbrev tk_C : Type := Nat × Nat × List Int
abbrev tk_S : Type := List tk_C
/-- base address; classes and slots; array classes; addresses and contents of the rows that are only read -/
abbrev tk_G : Type := Nat × va_G × (Nat → ClassId) × (Nat → Nat) × (Nat → List Int)
/-- a method in its room: name, code, locals, answer; depth, cells, slots -/
abbrev tk_F : Type := MethodName × ByteArray × Nat × Option FieldType × Nat × Nat × Nat
def tk_mu (M : tk_M) (c i v : Int) : tk_M := fun c' i' => if c' = c ∧ i' = i then v else M c' i'
def tk_sg (S : tk_S) (c : Int) : Option tk_C := if c < 0 then none else S[c.toNat]?
def tk_ro (G : tk_G) (r : Int) : Option Nat := if r < 0 then none else some (G.1 + r.toNat)
def tk_e (G : tk_G) (v : tk_V) : Value := match v with
  | (0, x) => .int (Int32.ofInt x)
  | (1, x) => .long (Int64.ofInt x)
  | (2, x) => va_rf (tk_ro G x)
  | (3, x) => .ref (G.2.2.2.1 x.toNat)
  | _ => .int 0
def tk_r32 (x : Int) : Prop := -2147483648 ≤ x ∧ x ≤ 2147483647
def tk_r64 (x : Int) : Prop := -9223372036854775808 ≤ x ∧ x ≤ 9223372036854775807
def tk_ok (v : tk_V) : Prop := (v.1 = 0 → tk_r32 v.2) ∧ (v.1 = 1 → tk_r64 v.2)
/-- which slots of an object hold cells (2), ints (0) -/
def tk_tag (k i : Nat) : Nat := match tyX_of k i with
  | .object _ => 2
  | .array _ => 2
  | _ => 0
def tk_ent (G : tk_G) (q : tk_C) (f : Int → Int) : va_E :=
  if q.1 = 20 then .inl (G.2.2.1 0, q.2.1, .inl (fun j => Int32.ofInt (f j)))
  else if q.1 = 21 then .inl (G.2.2.1 1, q.2.1, .inr (.inl (fun j => Int64.ofInt (f j))))
  else if q.1 = 22 then .inl (G.2.2.1 2, q.2.1, .inl (fun j => Int32.ofInt (f j)))
  else if q.1 = 23 then .inl (G.2.2.1 3, q.2.1, .inr (.inr (.inr (.inr (fun j => tk_ro G (q.2.2.getD j (-1)))))))
  else if q.1 = 24 then .inl (G.2.2.1 4, q.2.1, .inr (.inr (.inr (.inr (fun j => tk_ro G (q.2.2.getD j (-1)))))))
  else .inr (q.1, (List.range q.2.1).map (fun i => if tk_tag q.1 i = 2 then tk_e G (xR (q.2.2.getD i (-1))) else tk_e G (xI (f i))))
def tk_ws (G : tk_G) (S : tk_S) (M : tk_M) : va_W := S.mapIdx (fun c q => (G.1 + c, tk_ent G q (M c)))
def tk_rng (k : Nat) (x : Int) : Prop := if k = 21 then tk_r64 x else tk_r32 x
def tk_mok (S : tk_S) (M : tk_M) : Prop := ∀ (c : Nat) (q : tk_C), S[c]? = some q → ∀ i : Nat, i < q.2.1 → tk_rng q.1 (M c i)
/-- the world: the law's cells, all of them, and nothing behind them -/
def tk_W (G : tk_G) (S : tk_S) (M : tk_M) (H : Heap) : Prop := va_P G.2.1 vwCl (tk_ws G S M) H ∧ tk_mok S M
def tk_A (G : tk_G) : Nat → Prop := fun q => G.1 ≤ q
def tk_ty (G : tk_G) : List (ClassId × FieldType) := [(G.2.2.1 0, .int), (G.2.2.1 1, .long), (G.2.2.1 2, .byte), (G.2.2.1 3, .object RX3), (G.2.2.1 4, .object RX6)]
def tk_T (G : tk_G) (k : Nat) (U : State) (H : Heap) : Prop := va_T .int (G.2.2.2.1 k) (G.2.2.2.2 k).length (fun j => .int (Int32.ofInt ((G.2.2.2.2 k).getD j 0))) (tk_A G) U H ∧ (G.2.2.2.2 k).length < 2 ^ 31 ∧ ∀ x ∈ G.2.2.2.2 k, tk_r32 x
def tk_nest : Cond := .methodLinkNest RX3 49 yX9_lowerOf RX9
/-- what holds at every state of the run: classes, rows that are only read -/
def tk_K (G : tk_G) (U : State) (H : Heap) : Prop := va_K G.2.1 vwCl (tk_ty G) U ∧ (∀ k : Nat, k < 3 → tk_T G k U H) ∧ va_Z RX2 "S" "[I" (.ref (G.2.2.2.1 1)) (tk_A G) U H ∧ va_Z RX2 "T" "[I" (.ref (G.2.2.2.1 2)) (tk_A G) U H ∧ va_Nw tk_nest U ∧ G.1 ≤ H.size
def tk_tb : List Cond := lw_tbl.filter goodWord
def tk_rm (f : tk_F) : Room := { frames := f.2.2.2.2.1, cells := f.2.2.2.2.2.1, slots := f.2.2.2.2.2.2, locals := 40 * f.2.2.2.2.1 }
def tk_l (G : tk_G) (ls : List tk_V) : List (Nat × Value) := ls.zipIdx.filterMap (fun q => if q.1.1 < 4 then some (q.2, tk_e G q.1) else none)
/-- what is fixed in a method's run -/
def tk_Fx (G : tk_G) (f : tk_F) (p : Program) (s : State) (m : MethodId) (args : Array Value) (meth : Method) (c : Code) : Prop :=
  p.tables.exec = Jvm.exec ∧ c.code = f.2.1 ∧ c.maxLocals = f.2.2.1 ∧ s.vm.findClass f.1.cls = some m.cls ∧ (∀ w ∈ tk_tb, w.before args s = true) ∧ tk_K G s s.heap ∧ meth.name = f.1.name
/-- the answer as it lies on the stack; how it is given -/
def tk_rst (G : tk_G) (v : tk_V) : List Value := if v.1 < 4 then [tk_e G v] else []
def tk_rok (f : tk_F) (v : tk_V) (pc : Nat) : Prop := match f.2.2.2.1 with
  | none => v = xU ∧ decode f.2.1 pc = .ok (.return_, 1)
  | some .int => v.1 = 0 ∧ decode f.2.1 pc = .ok (.ireturn, 1)
  | some .boolean => v.1 = 0 ∧ (v.2 = 0 ∨ v.2 = 1) ∧ decode f.2.1 pc = .ok (.ireturn, 1)
  | some .long => v.1 = 1 ∧ decode f.2.1 pc = .ok (.lreturn, 1)
  | some (.object _) => v.1 = 2 ∧ 0 ≤ v.2 ∧ decode f.2.1 pc = .ok (.areturn, 1)
  | _ => False
def Ok (G : tk_G) (f : tk_F) (pc : Nat) (ls st : List tk_V) (S : tk_S) (M : tk_M) (k n : Nat) (Q : tk_V → tk_S → tk_M → Prop) : Prop :=
  ∀ (p : Program) (l : Launch) (e : Env) (s : State) (m : MethodId) (args : Array Value) (below : List Frame) (meth : Method) (c : Code) (H : Heap) (locs : List Loc) (la : Array Slot) (Z : State → Prop),
    tk_Fx G f p s m args meth c → tk_W G S M H → va_S (tk_A G) s.heap H locs → lv_has la ls.length (tk_l G ls) → (ls.length = f.2.2.1 ∧ s.heap.size + k = G.1 + S.length) → (∀ v ∈ ls, tk_ok v) → (∀ v ∈ st, tk_ok v) →
    (∀ (v : tk_V) (S' : tk_S) (M' : tk_M) (H' : Heap) (locs' : List Loc) (k' n' pc' : Nat) (la' : Array Slot), Q v S' M' → tk_W G S' M' H' → va_S (tk_A G) s.heap H' locs' → (k' ≤ f.2.2.2.2.2.1 ∧ s.heap.size + k' = G.1 + S'.length) → n' ≤ f.2.2.2.2.2.2 → tk_ok v → tk_rok f v pc' →
      W p l e (tk_rm f) s m args below meth c H' locs' k' n' Z (F0 m pc' la' (tk_rst G v))) →
    W p l e (tk_rm f) s m args below meth c H locs k n Z (F0 m pc la (st.map (tk_e G)))
theorem i32_to {x : Int} (h : tk_r32 x) : (Int32.ofInt x).toInt = x := Int32.toInt_ofInt_of_le (by have := h.1; omega) (by have := h.2; omega)
theorem i64_to {x : Int} (h : tk_r64 x) : (Int64.ofInt x).toInt = x := Int64.toInt_ofInt_of_le (by have := h.1; omega) (by have := h.2; omega)
theorem i32_lt {x y : Int} (hx : tk_r32 x) (hy : tk_r32 y) : Int32.ofInt x < Int32.ofInt y ↔ x < y := by rw [Int32.lt_iff_toInt_lt, i32_to hx, i32_to hy]
theorem i32_le {x y : Int} (hx : tk_r32 x) (hy : tk_r32 y) : Int32.ofInt x ≤ Int32.ofInt y ↔ x ≤ y := by rw [Int32.le_iff_toInt_le, i32_to hx, i32_to hy]
theorem i32_eq {x y : Int} (hx : tk_r32 x) (hy : tk_r32 y) : Int32.ofInt x = Int32.ofInt y ↔ x = y := by rw [← Int32.toInt_inj, i32_to hx, i32_to hy]
theorem i32_nat {x : Int} (hx : tk_r32 x) : (Int32.ofInt x).toNatClampNeg = x.toNat := by
  show (Int32.ofInt x).toInt.toNat = _
  rw [i32_to hx]
theorem i32_in {x : Int} {n : Nat} (hx : tk_r32 x) (h0 : 0 ≤ x) (h1 : x < n) : vp_in (Int32.ofInt x) n := by
  rw [vp_in_iff, i32_to hx]; exact ⟨h0, h1⟩
theorem tk_ok_I {x : Int} : tk_ok (xI x) ↔ tk_r32 x := ⟨fun h => h.1 rfl, fun h => ⟨fun _ => h, fun h0 => (by cases h0)⟩⟩
theorem tk_ok_L {x : Int} : tk_ok (xL x) ↔ tk_r64 x := ⟨fun h => h.2 rfl, fun h => ⟨fun h0 => (by cases h0), fun _ => h⟩⟩
theorem tk_ok_R (x : Int) : tk_ok (xR x) := ⟨fun h0 => (by cases h0), fun h0 => (by cases h0)⟩
theorem tk_ok_S (x : Int) : tk_ok (xS x) := ⟨fun h0 => (by cases h0), fun h0 => (by cases h0)⟩
theorem tk_ok_U : tk_ok xU := ⟨fun h0 => (by cases h0), fun h0 => (by cases h0)⟩
theorem tk_l_mem {G : tk_G} {ls : List tk_V} {i : Nat} {v : tk_V} (h : ls[i]? = some v) (hv : v.1 < 4) : (i, tk_e G v) ∈ tk_l G ls := by
  unfold tk_l
  rw [List.mem_filterMap]
  exact ⟨(v, i), by rw [List.mem_zipIdx_iff_getElem?]; exact h, by rw [if_pos hv]⟩
theorem tk_l_of {G : tk_G} {ls : List tk_V} {q : Nat × Value} (h : q ∈ tk_l G ls) : ∃ v, ls[q.1]? = some v ∧ v.1 < 4 ∧ q.2 = tk_e G v := by
  unfold tk_l at h
  obtain ⟨⟨v, i⟩, h1, h2⟩ := List.mem_filterMap.mp h
  rw [List.mem_zipIdx_iff_getElem?] at h1
  by_cases hv : v.1 < 4
  · rw [if_pos hv] at h2; cases h2; exact ⟨v, h1, hv, rfl⟩
  · rw [if_neg hv] at h2; cases h2
theorem tk_lat {G : tk_G} {la : Array Slot} {ls : List tk_V} {n i : Nat} {v : tk_V} (hl : lv_has la n (tk_l G ls)) (h : ls[i]? = some v) (hv : v.1 < 4) : la[i]? = some (.val (tk_e G v)) := hl.2.2 _ (tk_l_mem h hv)
theorem tk_cat (G : tk_G) {v : tk_V} : (tk_e G v).category = 2 ↔ v.1 = 1 := by
  obtain ⟨t, x⟩ := v
  match t with
  | 0 => simp [tk_e, Value.category]
  | 1 => simp [tk_e, Value.category]
  | 2 => unfold tk_e va_rf; simp only []; split <;> simp [Value.category]
  | 3 => simp [tk_e, Value.category]
  | t + 4 => simp [tk_e, Value.category]
/-- a store at i is good, if no long lies just ahead of it -/
def tk_sto (ls : List tk_V) (i : Nat) : Bool := match i with
  | 0 => true
  | j + 1 => match ls[j]? with
    | some (1, _) => false
    | _ => true
theorem tk_sto_ne {ls : List tk_V} {i j : Nat} {v : tk_V} (h : tk_sto ls i = true) (hj : j + 1 = i) (hv : ls[j]? = some v) : v.1 ≠ 1 := by
  subst hj
  intro h1
  obtain ⟨t, x⟩ := v
  cases h1
  simp [tk_sto, hv] at h
theorem tk_set1 {G : tk_G} {la la' : Array Slot} {ls : List tk_V} {i : Nat} {v : tk_V} (hs : tk_sto ls i = true) (hi : i < ls.length) (hl : lv_has la' ls.length ((i, tk_e G v) :: (tk_l G ls).filter (fun q => !(q.1 == i) && !(q.1 + 1 == i && q.2.category == 2)))) : lv_has la' (ls.set i v).length (tk_l G (ls.set i v)) := by
  rw [List.length_set]
  refine ⟨hl.1, hl.2.1, fun q hq => hl.2.2 q ?_⟩
  obtain ⟨w, h1, h2, h3⟩ := tk_l_of hq
  obtain ⟨j, z⟩ := q
  dsimp only at h1 h3
  subst h3
  by_cases hj : j = i
  · subst hj
    rw [List.getElem?_set_self hi] at h1
    cases h1
    exact List.mem_cons_self
  · rw [List.getElem?_set_ne (fun h => hj h.symm)] at h1
    refine List.mem_cons_of_mem _ (List.mem_filter.mpr ⟨tk_l_mem h1 h2, ?_⟩)
    have hc : ¬ (j + 1 = i ∧ (tk_e G w).category = 2) := fun h => tk_sto_ne hs h.1 h1 ((tk_cat G).mp h.2)
    simp only [Bool.and_eq_true, Bool.not_eq_true', beq_eq_false_iff_ne, ne_eq, Bool.and_eq_false_iff]
    refine ⟨hj, ?_⟩
    by_cases h5 : j + 1 = i
    · exact Or.inr (fun h6 => hc ⟨h5, h6⟩)
    · exact Or.inl h5
theorem tk_set2 {G : tk_G} {la la' : Array Slot} {ls : List tk_V} {i : Nat} {v : tk_V} (hs : tk_sto ls i = true) (hi : i + 1 < ls.length) (hl : lv_has la' ls.length ((i, tk_e G v) :: (tk_l G ls).filter (fun q => !(q.1 == i) && (!(q.1 == i + 1) && !(q.1 + 1 == i && q.2.category == 2))))) : lv_has la' ((ls.set i v).set (i + 1) xU).length (tk_l G ((ls.set i v).set (i + 1) xU)) := by
  rw [List.length_set, List.length_set]
  refine ⟨hl.1, hl.2.1, fun q hq => hl.2.2 q ?_⟩
  obtain ⟨w, h1, h2, h3⟩ := tk_l_of hq
  obtain ⟨j, z⟩ := q
  dsimp only at h1 h3
  subst h3
  by_cases hj1 : j = i + 1
  · subst hj1
    rw [List.getElem?_set_self (by rw [List.length_set]; exact hi)] at h1
    cases h1
    exact absurd h2 (by decide)
  · rw [List.getElem?_set_ne (fun h => hj1 h.symm)] at h1
    by_cases hj : j = i
    · subst hj
      rw [List.getElem?_set_self (by omega)] at h1
      cases h1
      exact List.mem_cons_self
    · rw [List.getElem?_set_ne (fun h => hj h.symm)] at h1
      refine List.mem_cons_of_mem _ (List.mem_filter.mpr ⟨tk_l_mem h1 h2, ?_⟩)
      have hc : ¬ (j + 1 = i ∧ (tk_e G w).category = 2) := fun h => tk_sto_ne hs h.1 h1 ((tk_cat G).mp h.2)
      simp only [Bool.and_eq_true, Bool.not_eq_true', beq_eq_false_iff_ne, ne_eq, Bool.and_eq_false_iff]
      refine ⟨hj, hj1, ?_⟩
      by_cases h5 : j + 1 = i
      · exact Or.inr (fun h6 => hc ⟨h5, h6⟩)
      · exact Or.inl h5
theorem tk_oks {ls : List tk_V} {i : Nat} {v : tk_V} (h : ∀ w ∈ ls, tk_ok w) (hv : tk_ok v) : ∀ w ∈ ls.set i v, tk_ok w := fun w hw => by
  rcases List.mem_or_eq_of_mem_set hw with h1 | h1
  · exact h w h1
  · rw [h1]; exact hv
end
section
section TkRows
variable {G : tk_G} {f : tk_F} {pc : Nat} {ls st : List tk_V} {S : tk_S} {M : tk_M} {k n : Nat} {Q : tk_V → tk_S → tk_M → Prop}
theorem tk_okc {v : tk_V} {st : List tk_V} (hv : tk_ok v) (h : ∀ w ∈ st, tk_ok w) : ∀ w ∈ v :: st, tk_ok w := fun w hw => by
  rcases List.mem_cons.mp hw with h1 | h1
  · rw [h1]; exact hv
  · exact h w h1
theorem tk_okt {v : tk_V} {st : List tk_V} (h : ∀ w ∈ v :: st, tk_ok w) : ∀ w ∈ st, tk_ok w := fun w hw => h w (List.mem_cons_of_mem _ hw)
theorem tr_iconst {x : Int} (hd : decode f.2.1 pc = .ok (.iconst x, 1)) (hr : tk_r32 x) (kk : Ok G f (pc + 1) ls (xI x :: st) S M k n Q) : Ok G f pc ls st S M k n Q := by
  intro p l e s m args below meth c H locs la Z F hW hS hl hn hls hst hR
  exact lv_iconst F.1 F.2.1 hd rfl (kk p l e s m args below meth c H locs la Z F hW hS hl hn hls (tk_okc (tk_ok_I.mpr hr) hst) hR)
theorem tr_bipush {x : Int} (hd : decode f.2.1 pc = .ok (.bipush x, 2)) (hr : (Int8.ofInt x).toInt32 = Int32.ofInt x ∧ tk_r32 x) (kk : Ok G f (pc + 2) ls (xI x :: st) S M k n Q) : Ok G f pc ls st S M k n Q := by
  intro p l e s m args below meth c H locs la Z F hW hS hl hn hls hst hR
  exact lv_bipush F.1 F.2.1 hd hr.1 (kk p l e s m args below meth c H locs la Z F hW hS hl hn hls (tk_okc (tk_ok_I.mpr hr.2) hst) hR)
theorem tr_sipush {x : Int} (hd : decode f.2.1 pc = .ok (.sipush x, 3)) (hr : (Int16.ofInt x).toInt32 = Int32.ofInt x ∧ tk_r32 x) (kk : Ok G f (pc + 3) ls (xI x :: st) S M k n Q) : Ok G f pc ls st S M k n Q := by
  intro p l e s m args below meth c H locs la Z F hW hS hl hn hls hst hR
  exact lv_sipush F.1 F.2.1 hd hr.1 (kk p l e s m args below meth c H locs la Z F hW hS hl hn hls (tk_okc (tk_ok_I.mpr hr.2) hst) hR)
theorem tr_lconst {i : Fin 2} {x : Int} (hd : decode f.2.1 pc = .ok (.lconst i, 1)) (hx : Int64.ofNat (i : Nat) = Int64.ofInt x) (hr : tk_r64 x) (kk : Ok G f (pc + 1) ls (xL x :: st) S M k n Q) : Ok G f pc ls st S M k n Q := by
  intro p l e s m args below meth c H locs la Z F hW hS hl hn hls hst hR
  exact lv_lconst F.1 F.2.1 hd hx (kk p l e s m args below meth c H locs la Z F hW hS hl hn hls (tk_okc (tk_ok_L.mpr hr) hst) hR)
theorem tr_ldc {x : Int} {i : Nat} (hd : decode f.2.1 pc = .ok (.ldc i, 2)) (hw : Cond.constant f.1.cls i (Int32.ofInt x) ∈ tk_tb) (hr : tk_r32 x) (kk : Ok G f (pc + 2) ls (xI x :: st) S M k n Q) : Ok G f pc ls st S M k n Q := by
  intro p l e s m args below meth c H locs la Z F hW hS hl hn hls hst hR
  exact lv_ldc F.1 F.2.1 F.2.2.2.1 (F.2.2.2.2.1 _ hw) hd (kk p l e s m args below meth c H locs la Z F hW hS hl hn hls (tk_okc (tk_ok_I.mpr hr) hst) hR)
theorem tr_ldc2 {x : Int} {i : Nat} (hd : decode f.2.1 pc = .ok (.ldc2_w i, 3)) (hw : Cond.constantLong f.1.cls i (Int64.ofInt x) ∈ tk_tb) (hr : tk_r64 x) (kk : Ok G f (pc + 3) ls (xL x :: st) S M k n Q) : Ok G f pc ls st S M k n Q := by
  intro p l e s m args below meth c H locs la Z F hW hS hl hn hls hst hR
  exact lv_ldc2 F.1 F.2.1 F.2.2.2.1 (F.2.2.2.2.1 _ hw) hd (kk p l e s m args below meth c H locs la Z F hW hS hl hn hls (tk_okc (tk_ok_L.mpr hr) hst) hR)
theorem tr_iload_n {j : Fin 4} {x : Int} (hd : decode f.2.1 pc = .ok (.iload_n j, 1)) (hv : ls[(j : Nat)]? = some (xI x)) (kk : Ok G f (pc + 1) ls (xI x :: st) S M k n Q) : Ok G f pc ls st S M k n Q := by
  intro p l e s m args below meth c H locs la Z F hW hS hl hn hls hst hR
  exact lv_iload_n F.1 F.2.1 hd rfl (tk_lat hl hv (Nat.le_of_ble_eq_true rfl)) (kk p l e s m args below meth c H locs la Z F hW hS hl hn hls (tk_okc (hls _ (List.mem_of_getElem? hv)) hst) hR)
theorem tr_iload {j : Nat} {x : Int} (hd : decode f.2.1 pc = .ok (.iload j, 2)) (hv : ls[j]? = some (xI x)) (kk : Ok G f (pc + 2) ls (xI x :: st) S M k n Q) : Ok G f pc ls st S M k n Q := by
  intro p l e s m args below meth c H locs la Z F hW hS hl hn hls hst hR
  exact lv_iload F.1 F.2.1 hd (tk_lat hl hv (Nat.le_of_ble_eq_true rfl)) (kk p l e s m args below meth c H locs la Z F hW hS hl hn hls (tk_okc (hls _ (List.mem_of_getElem? hv)) hst) hR)
theorem tr_lload_n {j : Fin 4} {x : Int} (hd : decode f.2.1 pc = .ok (.lload_n j, 1)) (hv : ls[(j : Nat)]? = some (xL x)) (kk : Ok G f (pc + 1) ls (xL x :: st) S M k n Q) : Ok G f pc ls st S M k n Q := by
  intro p l e s m args below meth c H locs la Z F hW hS hl hn hls hst hR
  exact lv_lload_n F.1 F.2.1 hd rfl (tk_lat hl hv (Nat.le_of_ble_eq_true rfl)) (kk p l e s m args below meth c H locs la Z F hW hS hl hn hls (tk_okc (hls _ (List.mem_of_getElem? hv)) hst) hR)
theorem tr_lload {j : Nat} {x : Int} (hd : decode f.2.1 pc = .ok (.lload j, 2)) (hv : ls[j]? = some (xL x)) (kk : Ok G f (pc + 2) ls (xL x :: st) S M k n Q) : Ok G f pc ls st S M k n Q := by
  intro p l e s m args below meth c H locs la Z F hW hS hl hn hls hst hR
  exact lv_lload F.1 F.2.1 hd (tk_lat hl hv (Nat.le_of_ble_eq_true rfl)) (kk p l e s m args below meth c H locs la Z F hW hS hl hn hls (tk_okc (hls _ (List.mem_of_getElem? hv)) hst) hR)
theorem tk_eR {x : Int} (h : 0 ≤ x) : tk_e G (xR x) = .ref (G.1 + x.toNat) := by
  show va_rf (tk_ro G x) = _
  unfold tk_ro
  rw [if_neg (by omega)]
  rfl
theorem tr_aload_n {j : Fin 4} {x : Int} (hd : decode f.2.1 pc = .ok (.aload_n j, 1)) (hv : ls[(j : Nat)]? = some (xR x)) (h0 : 0 ≤ x) (kk : Ok G f (pc + 1) ls (xR x :: st) S M k n Q) : Ok G f pc ls st S M k n Q := by
  intro p l e s m args below meth c H locs la Z F hW hS hl hn hls hst hR
  have h1 := tk_lat hl hv (Nat.le_of_ble_eq_true rfl)
  rw [tk_eR h0] at h1
  refine lv_aload_n F.1 F.2.1 hd rfl h1 ?_
  rw [← tk_eR h0]
  exact kk p l e s m args below meth c H locs la Z F hW hS hl hn hls (tk_okc (tk_ok_R x) hst) hR
theorem tr_aload {j : Nat} {x : Int} (hd : decode f.2.1 pc = .ok (.aload j, 2)) (hv : ls[j]? = some (xR x)) (h0 : 0 ≤ x) (kk : Ok G f (pc + 2) ls (xR x :: st) S M k n Q) : Ok G f pc ls st S M k n Q := by
  intro p l e s m args below meth c H locs la Z F hW hS hl hn hls hst hR
  have h1 := tk_lat hl hv (Nat.le_of_ble_eq_true rfl)
  rw [tk_eR h0] at h1
  refine lv_aload F.1 F.2.1 hd h1 ?_
  rw [← tk_eR h0]
  exact kk p l e s m args below meth c H locs la Z F hW hS hl hn hls (tk_okc (tk_ok_R x) hst) hR
theorem tr_sload_n {j : Fin 4} {x : Int} (hd : decode f.2.1 pc = .ok (.aload_n j, 1)) (hv : ls[(j : Nat)]? = some (xS x)) (kk : Ok G f (pc + 1) ls (xS x :: st) S M k n Q) : Ok G f pc ls st S M k n Q := by
  intro p l e s m args below meth c H locs la Z F hW hS hl hn hls hst hR
  exact lv_aload_n F.1 F.2.1 hd rfl (tk_lat hl hv (Nat.le_of_ble_eq_true rfl)) (kk p l e s m args below meth c H locs la Z F hW hS hl hn hls (tk_okc (tk_ok_S x) hst) hR)
theorem tr_istore_n {j : Fin 4} {x : Int} (hd : decode f.2.1 pc = .ok (.istore_n j, 1)) (hs : tk_sto ls (j : Nat) = true) (hj : (j : Nat) < ls.length) (kk : Ok G f (pc + 1) (ls.set (j : Nat) (xI x)) st S M k n Q) : Ok G f pc ls (xI x :: st) S M k n Q := by
  intro p l e s m args below meth c H locs la Z F hW hS hl hn hls hst hR
  exact lv_istore_n F.1 F.2.1 hd rfl hl hj rfl (fun la' h' => kk p l e s m args below meth c H locs la' Z F hW hS (tk_set1 (la := la) (v := xI x) hs hj h') ⟨(List.length_set ..).trans hn.1, hn.2⟩ (tk_oks hls (hst _ List.mem_cons_self)) (tk_okt hst) hR)
theorem tr_istore {j : Nat} {x : Int} (hd : decode f.2.1 pc = .ok (.istore j, 2)) (hs : tk_sto ls j = true) (hj : j < ls.length) (kk : Ok G f (pc + 2) (ls.set j (xI x)) st S M k n Q) : Ok G f pc ls (xI x :: st) S M k n Q := by
  intro p l e s m args below meth c H locs la Z F hW hS hl hn hls hst hR
  exact lv_istore F.1 F.2.1 hd hl hj rfl (fun la' h' => kk p l e s m args below meth c H locs la' Z F hW hS (tk_set1 (la := la) (v := xI x) hs hj h') ⟨(List.length_set ..).trans hn.1, hn.2⟩ (tk_oks hls (hst _ List.mem_cons_self)) (tk_okt hst) hR)
theorem tr_lstore_n {j : Fin 4} {x : Int} (hd : decode f.2.1 pc = .ok (.lstore_n j, 1)) (hs : tk_sto ls (j : Nat) = true) (hj : (j : Nat) + 1 < ls.length) (kk : Ok G f (pc + 1) ((ls.set (j : Nat) (xL x)).set ((j : Nat) + 1) xU) st S M k n Q) : Ok G f pc ls (xL x :: st) S M k n Q := by
  intro p l e s m args below meth c H locs la Z F hW hS hl hn hls hst hR
  exact lv_lstore_n F.1 F.2.1 hd rfl hl hj rfl (fun la' h' => kk p l e s m args below meth c H locs la' Z F hW hS (tk_set2 (la := la) (v := xL x) hs hj h') ⟨by rw [List.length_set, List.length_set]; exact hn.1, hn.2⟩ (tk_oks (tk_oks hls (hst _ List.mem_cons_self)) tk_ok_U) (tk_okt hst) hR)
theorem tr_lstore {j : Nat} {x : Int} (hd : decode f.2.1 pc = .ok (.lstore j, 2)) (hs : tk_sto ls j = true) (hj : j + 1 < ls.length) (kk : Ok G f (pc + 2) ((ls.set j (xL x)).set (j + 1) xU) st S M k n Q) : Ok G f pc ls (xL x :: st) S M k n Q := by
  intro p l e s m args below meth c H locs la Z F hW hS hl hn hls hst hR
  exact lv_lstore F.1 F.2.1 hd hl hj rfl (fun la' h' => kk p l e s m args below meth c H locs la' Z F hW hS (tk_set2 (la := la) (v := xL x) hs hj h') ⟨by rw [List.length_set, List.length_set]; exact hn.1, hn.2⟩ (tk_oks (tk_oks hls (hst _ List.mem_cons_self)) tk_ok_U) (tk_okt hst) hR)
theorem tr_astore_n {j : Fin 4} {x : Int} (hd : decode f.2.1 pc = .ok (.astore_n j, 1)) (hs : tk_sto ls (j : Nat) = true) (hj : (j : Nat) < ls.length) (h0 : 0 ≤ x) (kk : Ok G f (pc + 1) (ls.set (j : Nat) (xR x)) st S M k n Q) : Ok G f pc ls (xR x :: st) S M k n Q := by
  intro p l e s m args below meth c H locs la Z F hW hS hl hn hls hst hR
  rw [List.map_cons, tk_eR h0]
  exact lv_astore_n F.1 F.2.1 hd rfl hl hj rfl (fun la' h' => kk p l e s m args below meth c H locs la' Z F hW hS (tk_set1 (la := la) (v := xR x) hs hj (by rw [tk_eR h0]; exact h')) ⟨(List.length_set ..).trans hn.1, hn.2⟩ (tk_oks hls (tk_ok_R x)) (tk_okt hst) hR)
theorem tr_astore {j : Nat} {x : Int} (hd : decode f.2.1 pc = .ok (.astore j, 2)) (hs : tk_sto ls j = true) (hj : j < ls.length) (h0 : 0 ≤ x) (kk : Ok G f (pc + 2) (ls.set j (xR x)) st S M k n Q) : Ok G f pc ls (xR x :: st) S M k n Q := by
  intro p l e s m args below meth c H locs la Z F hW hS hl hn hls hst hR
  rw [List.map_cons, tk_eR h0]
  exact lv_astore F.1 F.2.1 hd hl hj rfl (fun la' h' => kk p l e s m args below meth c H locs la' Z F hW hS (tk_set1 (la := la) (v := xR x) hs hj (by rw [tk_eR h0]; exact h')) ⟨(List.length_set ..).trans hn.1, hn.2⟩ (tk_oks hls (tk_ok_R x)) (tk_okt hst) hR)
theorem tr_iinc {j : Nat} {x z : Int} (hd : decode f.2.1 pc = .ok (.iinc j z, 3)) (hv : ls[j]? = some (xI x)) (hs : tk_sto ls j = true) (hr : tk_r32 (x + z)) (kk : Ok G f (pc + 3) (ls.set j (xI (x + z))) st S M k n Q) : Ok G f pc ls st S M k n Q := by
  intro p l e s m args below meth c H locs la Z F hW hS hl hn hls hst hR
  have hj : j < ls.length := (List.getElem?_eq_some_iff.mp hv).1
  obtain ⟨q, hq⟩ := List.getElem?_of_mem (tk_l_mem (G := G) hv (Nat.le_of_ble_eq_true rfl))
  exact lv_iinc (v := Int32.ofInt (x + z)) F.1 F.2.1 hd hl hq (Int32.ofInt_add x z).symm hj rfl (fun la' h' => kk p l e s m args below meth c H locs la' Z F hW hS (tk_set1 (la := la) (v := xI (x + z)) hs hj h') ⟨(List.length_set ..).trans hn.1, hn.2⟩ (tk_oks hls (tk_ok_I.mpr hr)) hst hR)
theorem tr_iadd {x z : Int} (hd : decode f.2.1 pc = .ok (.iadd, 1)) (hr : tk_r32 (x + z)) (kk : Ok G f (pc + 1) ls (xI (x + z) :: st) S M k n Q) : Ok G f pc ls (xI z :: xI x :: st) S M k n Q := by
  intro p l e s m args below meth c H locs la Z F hW hS hl hn hls hst hR
  have h := kk p l e s m args below meth c H locs la Z F hW hS hl hn hls (tk_okc (tk_ok_I.mpr hr) (tk_okt (tk_okt hst))) hR
  refine lv_iadd F.1 F.2.1 hd ?_
  rw [← Int32.ofInt_add]; exact h
theorem tr_isub {x z : Int} (hd : decode f.2.1 pc = .ok (.isub, 1)) (hr : tk_r32 (x - z)) (kk : Ok G f (pc + 1) ls (xI (x - z) :: st) S M k n Q) : Ok G f pc ls (xI z :: xI x :: st) S M k n Q := by
  intro p l e s m args below meth c H locs la Z F hW hS hl hn hls hst hR
  have h := kk p l e s m args below meth c H locs la Z F hW hS hl hn hls (tk_okc (tk_ok_I.mpr hr) (tk_okt (tk_okt hst))) hR
  refine lv_isub F.1 F.2.1 hd ?_
  rw [← Int32.ofInt_sub]; exact h
theorem tr_imul {x z : Int} (hd : decode f.2.1 pc = .ok (.imul, 1)) (hr : tk_r32 (x * z)) (kk : Ok G f (pc + 1) ls (xI (x * z) :: st) S M k n Q) : Ok G f pc ls (xI z :: xI x :: st) S M k n Q := by
  intro p l e s m args below meth c H locs la Z F hW hS hl hn hls hst hR
  have h := kk p l e s m args below meth c H locs la Z F hW hS hl hn hls (tk_okc (tk_ok_I.mpr hr) (tk_okt (tk_okt hst))) hR
  refine lv_imul F.1 F.2.1 hd ?_
  rw [← Int32.ofInt_mul]; exact h
end TkRows
end
section
section TkRows2
variable {G : tk_G} {f : tk_F} {pc : Nat} {ls st : List tk_V} {S : tk_S} {M : tk_M} {k n : Nat} {Q : tk_V → tk_S → tk_M → Prop}
theorem tk_r32_0 : tk_r32 0 := ⟨by decide, by decide⟩
theorem tr_ifeq {x off : Int} {tgt : Nat} (hd : decode f.2.1 pc = .ok (.ifCond .eq off, 3)) (ht : (pc : Int) + off = (tgt : Int)) (kt : x = 0 → Ok G f tgt ls st S M k n Q) (kf : ¬ (x = 0) → Ok G f (pc + 3) ls st S M k n Q) : Ok G f pc ls (xI x :: st) S M k n Q := by
  intro p l e s m args below meth c H locs la Z F hW hS hl hn hls hst hR
  have hx := tk_ok_I.mp (hst _ List.mem_cons_self)
  exact lv_if_eq F.1 F.2.1 hd ht (fun q => kt ((i32_eq hx tk_r32_0).mp q) p l e s m args below meth c H locs la Z F hW hS hl hn hls (tk_okt hst) hR) (fun q => kf (fun q2 => q ((i32_eq hx tk_r32_0).mpr q2)) p l e s m args below meth c H locs la Z F hW hS hl hn hls (tk_okt hst) hR)
theorem tr_ifne {x off : Int} {tgt : Nat} (hd : decode f.2.1 pc = .ok (.ifCond .ne off, 3)) (ht : (pc : Int) + off = (tgt : Int)) (kt : x ≠ 0 → Ok G f tgt ls st S M k n Q) (kf : x = 0 → Ok G f (pc + 3) ls st S M k n Q) : Ok G f pc ls (xI x :: st) S M k n Q := by
  intro p l e s m args below meth c H locs la Z F hW hS hl hn hls hst hR
  have hx := tk_ok_I.mp (hst _ List.mem_cons_self)
  exact lv_if_ne F.1 F.2.1 hd ht (fun q => kt ((not_congr (i32_eq hx tk_r32_0)).mp q) p l e s m args below meth c H locs la Z F hW hS hl hn hls (tk_okt hst) hR) (fun q => kf ((i32_eq hx tk_r32_0).mp q) p l e s m args below meth c H locs la Z F hW hS hl hn hls (tk_okt hst) hR)
theorem tr_iflt {x off : Int} {tgt : Nat} (hd : decode f.2.1 pc = .ok (.ifCond .lt off, 3)) (ht : (pc : Int) + off = (tgt : Int)) (kt : x < 0 → Ok G f tgt ls st S M k n Q) (kf : ¬ (x < 0) → Ok G f (pc + 3) ls st S M k n Q) : Ok G f pc ls (xI x :: st) S M k n Q := by
  intro p l e s m args below meth c H locs la Z F hW hS hl hn hls hst hR
  have hx := tk_ok_I.mp (hst _ List.mem_cons_self)
  exact lv_if_lt F.1 F.2.1 hd ht (fun q => kt ((i32_lt hx tk_r32_0).mp q) p l e s m args below meth c H locs la Z F hW hS hl hn hls (tk_okt hst) hR) (fun q => kf (fun q2 => q ((i32_lt hx tk_r32_0).mpr q2)) p l e s m args below meth c H locs la Z F hW hS hl hn hls (tk_okt hst) hR)
theorem tr_ifge {x off : Int} {tgt : Nat} (hd : decode f.2.1 pc = .ok (.ifCond .ge off, 3)) (ht : (pc : Int) + off = (tgt : Int)) (kt : 0 ≤ x → Ok G f tgt ls st S M k n Q) (kf : ¬ (0 ≤ x) → Ok G f (pc + 3) ls st S M k n Q) : Ok G f pc ls (xI x :: st) S M k n Q := by
  intro p l e s m args below meth c H locs la Z F hW hS hl hn hls hst hR
  have hx := tk_ok_I.mp (hst _ List.mem_cons_self)
  exact lv_if_ge F.1 F.2.1 hd ht (fun q => kt ((i32_le tk_r32_0 hx).mp q) p l e s m args below meth c H locs la Z F hW hS hl hn hls (tk_okt hst) hR) (fun q => kf (fun q2 => q ((i32_le tk_r32_0 hx).mpr q2)) p l e s m args below meth c H locs la Z F hW hS hl hn hls (tk_okt hst) hR)
theorem tr_ifgt {x off : Int} {tgt : Nat} (hd : decode f.2.1 pc = .ok (.ifCond .gt off, 3)) (ht : (pc : Int) + off = (tgt : Int)) (kt : 0 < x → Ok G f tgt ls st S M k n Q) (kf : ¬ (0 < x) → Ok G f (pc + 3) ls st S M k n Q) : Ok G f pc ls (xI x :: st) S M k n Q := by
  intro p l e s m args below meth c H locs la Z F hW hS hl hn hls hst hR
  have hx := tk_ok_I.mp (hst _ List.mem_cons_self)
  exact lv_if_gt F.1 F.2.1 hd ht (fun q => kt ((i32_lt tk_r32_0 hx).mp q) p l e s m args below meth c H locs la Z F hW hS hl hn hls (tk_okt hst) hR) (fun q => kf (fun q2 => q ((i32_lt tk_r32_0 hx).mpr q2)) p l e s m args below meth c H locs la Z F hW hS hl hn hls (tk_okt hst) hR)
theorem tr_ifle {x off : Int} {tgt : Nat} (hd : decode f.2.1 pc = .ok (.ifCond .le off, 3)) (ht : (pc : Int) + off = (tgt : Int)) (kt : x ≤ 0 → Ok G f tgt ls st S M k n Q) (kf : ¬ (x ≤ 0) → Ok G f (pc + 3) ls st S M k n Q) : Ok G f pc ls (xI x :: st) S M k n Q := by
  intro p l e s m args below meth c H locs la Z F hW hS hl hn hls hst hR
  have hx := tk_ok_I.mp (hst _ List.mem_cons_self)
  exact lv_if_le F.1 F.2.1 hd ht (fun q => kt ((i32_le hx tk_r32_0).mp q) p l e s m args below meth c H locs la Z F hW hS hl hn hls (tk_okt hst) hR) (fun q => kf (fun q2 => q ((i32_le hx tk_r32_0).mpr q2)) p l e s m args below meth c H locs la Z F hW hS hl hn hls (tk_okt hst) hR)
theorem tr_icmpeq {x z off : Int} {tgt : Nat} (hd : decode f.2.1 pc = .ok (.if_icmp .eq off, 3)) (ht : (pc : Int) + off = (tgt : Int)) (kt : x = z → Ok G f tgt ls st S M k n Q) (kf : ¬ (x = z) → Ok G f (pc + 3) ls st S M k n Q) : Ok G f pc ls (xI z :: xI x :: st) S M k n Q := by
  intro p l e s m args below meth c H locs la Z F hW hS hl hn hls hst hR
  have hz := tk_ok_I.mp (hst _ List.mem_cons_self)
  have hx := tk_ok_I.mp (hst _ (List.mem_cons_of_mem _ List.mem_cons_self))
  exact lv_icmp_eq F.1 F.2.1 hd ht (fun q => kt ((i32_eq hx hz).mp q) p l e s m args below meth c H locs la Z F hW hS hl hn hls (tk_okt (tk_okt hst)) hR) (fun q => kf (fun q2 => q ((i32_eq hx hz).mpr q2)) p l e s m args below meth c H locs la Z F hW hS hl hn hls (tk_okt (tk_okt hst)) hR)
theorem tr_icmpne {x z off : Int} {tgt : Nat} (hd : decode f.2.1 pc = .ok (.if_icmp .ne off, 3)) (ht : (pc : Int) + off = (tgt : Int)) (kt : x ≠ z → Ok G f tgt ls st S M k n Q) (kf : x = z → Ok G f (pc + 3) ls st S M k n Q) : Ok G f pc ls (xI z :: xI x :: st) S M k n Q := by
  intro p l e s m args below meth c H locs la Z F hW hS hl hn hls hst hR
  have hz := tk_ok_I.mp (hst _ List.mem_cons_self)
  have hx := tk_ok_I.mp (hst _ (List.mem_cons_of_mem _ List.mem_cons_self))
  exact lv_icmp_ne F.1 F.2.1 hd ht (fun q => kt ((not_congr (i32_eq hx hz)).mp q) p l e s m args below meth c H locs la Z F hW hS hl hn hls (tk_okt (tk_okt hst)) hR) (fun q => kf ((i32_eq hx hz).mp q) p l e s m args below meth c H locs la Z F hW hS hl hn hls (tk_okt (tk_okt hst)) hR)
theorem tr_icmplt {x z off : Int} {tgt : Nat} (hd : decode f.2.1 pc = .ok (.if_icmp .lt off, 3)) (ht : (pc : Int) + off = (tgt : Int)) (kt : x < z → Ok G f tgt ls st S M k n Q) (kf : ¬ (x < z) → Ok G f (pc + 3) ls st S M k n Q) : Ok G f pc ls (xI z :: xI x :: st) S M k n Q := by
  intro p l e s m args below meth c H locs la Z F hW hS hl hn hls hst hR
  have hz := tk_ok_I.mp (hst _ List.mem_cons_self)
  have hx := tk_ok_I.mp (hst _ (List.mem_cons_of_mem _ List.mem_cons_self))
  exact lv_icmp_lt F.1 F.2.1 hd ht (fun q => kt ((i32_lt hx hz).mp q) p l e s m args below meth c H locs la Z F hW hS hl hn hls (tk_okt (tk_okt hst)) hR) (fun q => kf (fun q2 => q ((i32_lt hx hz).mpr q2)) p l e s m args below meth c H locs la Z F hW hS hl hn hls (tk_okt (tk_okt hst)) hR)
theorem tr_icmpge {x z off : Int} {tgt : Nat} (hd : decode f.2.1 pc = .ok (.if_icmp .ge off, 3)) (ht : (pc : Int) + off = (tgt : Int)) (kt : z ≤ x → Ok G f tgt ls st S M k n Q) (kf : ¬ (z ≤ x) → Ok G f (pc + 3) ls st S M k n Q) : Ok G f pc ls (xI z :: xI x :: st) S M k n Q := by
  intro p l e s m args below meth c H locs la Z F hW hS hl hn hls hst hR
  have hz := tk_ok_I.mp (hst _ List.mem_cons_self)
  have hx := tk_ok_I.mp (hst _ (List.mem_cons_of_mem _ List.mem_cons_self))
  exact lv_icmp_ge F.1 F.2.1 hd ht (fun q => kt ((i32_le hz hx).mp q) p l e s m args below meth c H locs la Z F hW hS hl hn hls (tk_okt (tk_okt hst)) hR) (fun q => kf (fun q2 => q ((i32_le hz hx).mpr q2)) p l e s m args below meth c H locs la Z F hW hS hl hn hls (tk_okt (tk_okt hst)) hR)
theorem tr_icmpgt {x z off : Int} {tgt : Nat} (hd : decode f.2.1 pc = .ok (.if_icmp .gt off, 3)) (ht : (pc : Int) + off = (tgt : Int)) (kt : z < x → Ok G f tgt ls st S M k n Q) (kf : ¬ (z < x) → Ok G f (pc + 3) ls st S M k n Q) : Ok G f pc ls (xI z :: xI x :: st) S M k n Q := by
  intro p l e s m args below meth c H locs la Z F hW hS hl hn hls hst hR
  have hz := tk_ok_I.mp (hst _ List.mem_cons_self)
  have hx := tk_ok_I.mp (hst _ (List.mem_cons_of_mem _ List.mem_cons_self))
  exact lv_icmp_gt F.1 F.2.1 hd ht (fun q => kt ((i32_lt hz hx).mp q) p l e s m args below meth c H locs la Z F hW hS hl hn hls (tk_okt (tk_okt hst)) hR) (fun q => kf (fun q2 => q ((i32_lt hz hx).mpr q2)) p l e s m args below meth c H locs la Z F hW hS hl hn hls (tk_okt (tk_okt hst)) hR)
theorem tr_icmple {x z off : Int} {tgt : Nat} (hd : decode f.2.1 pc = .ok (.if_icmp .le off, 3)) (ht : (pc : Int) + off = (tgt : Int)) (kt : x ≤ z → Ok G f tgt ls st S M k n Q) (kf : ¬ (x ≤ z) → Ok G f (pc + 3) ls st S M k n Q) : Ok G f pc ls (xI z :: xI x :: st) S M k n Q := by
  intro p l e s m args below meth c H locs la Z F hW hS hl hn hls hst hR
  have hz := tk_ok_I.mp (hst _ List.mem_cons_self)
  have hx := tk_ok_I.mp (hst _ (List.mem_cons_of_mem _ List.mem_cons_self))
  exact lv_icmp_le F.1 F.2.1 hd ht (fun q => kt ((i32_le hx hz).mp q) p l e s m args below meth c H locs la Z F hW hS hl hn hls (tk_okt (tk_okt hst)) hR) (fun q => kf (fun q2 => q ((i32_le hx hz).mpr q2)) p l e s m args below meth c H locs la Z F hW hS hl hn hls (tk_okt (tk_okt hst)) hR)
theorem tr_goto {off : Int} {tgt : Nat} (hd : decode f.2.1 pc = .ok (.goto off, 3)) (ht : (pc : Int) + off = (tgt : Int)) (kk : Ok G f tgt ls st S M k n Q) : Ok G f pc ls st S M k n Q := by
  intro p l e s m args below meth c H locs la Z F hW hS hl hn hls hst hR
  exact lv_goto F.1 F.2.1 hd ht (kk p l e s m args below meth c H locs la Z F hW hS hl hn hls hst hR)
theorem tr_dup {v : tk_V} (hd : decode f.2.1 pc = .ok (.dup, 1)) (hv : v.1 ≠ 1) (kk : Ok G f (pc + 1) ls (v :: v :: st) S M k n Q) : Ok G f pc ls (v :: st) S M k n Q := by
  intro p l e s m args below meth c H locs la Z F hW hS hl hn hls hst hR
  exact lv_dup F.1 F.2.1 hd ((lv_cat _).resolve_right (fun h => hv ((tk_cat G).mp h))) (kk p l e s m args below meth c H locs la Z F hW hS hl hn hls (tk_okc (hst _ List.mem_cons_self) hst) hR)
theorem tr_dup2 {v w : tk_V} (hd : decode f.2.1 pc = .ok (.dup2, 1)) (hv : v.1 ≠ 1) (hw : w.1 ≠ 1) (kk : Ok G f (pc + 1) ls (v :: w :: v :: w :: st) S M k n Q) : Ok G f pc ls (v :: w :: st) S M k n Q := by
  intro p l e s m args below meth c H locs la Z F hW hS hl hn hls hst hR
  exact lv_dup2_11 F.1 F.2.1 hd ((lv_cat _).resolve_right (fun h => hv ((tk_cat G).mp h))) ((lv_cat _).resolve_right (fun h => hw ((tk_cat G).mp h))) (kk p l e s m args below meth c H locs la Z F hW hS hl hn hls (tk_okc (hst _ List.mem_cons_self) (tk_okc (hst _ (List.mem_cons_of_mem _ List.mem_cons_self)) hst)) hR)
theorem i32_div {x z : Int} (hx : tk_r32 x) (hz : tk_r32 z) (h0 : 0 ≤ x) (h1 : 0 < z) : Int32.ofInt x / Int32.ofInt z = Int32.ofInt (x / z) := by
  rw [← Int32.toInt_inj, Int32.toInt_div_of_ne_right, i32_to hx, i32_to hz, i32_to, Int.tdiv_eq_ediv_of_nonneg h0]
  · have h2 := Int.ediv_nonneg h0 (Int.le_of_lt h1)
    have h3 := Int.ediv_le_self z h0
    unfold tk_r32 at *; omega
  · intro h
    have h5 := congrArg Int32.toInt h
    rw [i32_to hz] at h5
    have h6 : (-1 : Int32).toInt = -1 := by decide
    omega
theorem i64_div {x z : Int} (hx : tk_r64 x) (hz : tk_r64 z) (h0 : 0 ≤ x) (h1 : 0 < z) : Int64.ofInt x / Int64.ofInt z = Int64.ofInt (x / z) := by
  rw [← Int64.toInt_inj, Int64.toInt_div_of_ne_right, i64_to hx, i64_to hz, i64_to, Int.tdiv_eq_ediv_of_nonneg h0]
  · have h2 := Int.ediv_nonneg h0 (Int.le_of_lt h1)
    have h3 := Int.ediv_le_self z h0
    unfold tk_r64 at *; omega
  · intro h
    have h5 := congrArg Int64.toInt h
    rw [i64_to hz] at h5
    have h6 : (-1 : Int64).toInt = -1 := by decide
    omega
theorem i32_ne0 {z : Int} (hz : tk_r32 z) (h1 : 0 < z) : ¬ Int32.ofInt z = 0 := fun h => by
  have h5 := congrArg Int32.toInt h
  rw [i32_to hz] at h5
  have h6 : (0 : Int32).toInt = 0 := by decide
  omega
theorem i64_ne0 {z : Int} (hz : tk_r64 z) (h1 : 0 < z) : ¬ Int64.ofInt z = 0 := fun h => by
  have h5 := congrArg Int64.toInt h
  rw [i64_to hz] at h5
  have h6 : (0 : Int64).toInt = 0 := by decide
  omega
theorem tr_idiv {x z : Int} (hd : decode f.2.1 pc = .ok (.idiv, 1)) (h0 : 0 ≤ x) (h1 : 0 < z) (kk : Ok G f (pc + 1) ls (xI (x / z) :: st) S M k n Q) : Ok G f pc ls (xI z :: xI x :: st) S M k n Q := by
  intro p l e s m args below meth c H locs la Z F hW hS hl hn hls hst hR
  have hz := tk_ok_I.mp (hst _ List.mem_cons_self)
  have hx := tk_ok_I.mp (hst _ (List.mem_cons_of_mem _ List.mem_cons_self))
  have hr : tk_r32 (x / z) := by
    have h2 := Int.ediv_nonneg h0 (Int.le_of_lt h1)
    have h3 := Int.ediv_le_self z h0
    unfold tk_r32 at *; omega
  have h := kk p l e s m args below meth c H locs la Z F hW hS hl hn hls (tk_okc (tk_ok_I.mpr hr) (tk_okt (tk_okt hst))) hR
  refine lv_idiv F.1 F.2.1 hd (i32_ne0 hz h1) ?_
  rw [i32_div hx hz h0 h1]; exact h
theorem tr_irem {x z : Int} (hd : decode f.2.1 pc = .ok (.irem, 1)) (h0 : 0 ≤ x) (h1 : 0 < z) (kk : Ok G f (pc + 1) ls (xI (x % z) :: st) S M k n Q) : Ok G f pc ls (xI z :: xI x :: st) S M k n Q := by
  intro p l e s m args below meth c H locs la Z F hW hS hl hn hls hst hR
  have hz := tk_ok_I.mp (hst _ List.mem_cons_self)
  have hx := tk_ok_I.mp (hst _ (List.mem_cons_of_mem _ List.mem_cons_self))
  have hr : tk_r32 (x % z) := by
    have h2 := Int.emod_nonneg x (Int.ne_of_gt h1)
    have h3 := Int.emod_lt_of_pos x h1
    unfold tk_r32 at *; omega
  have h := kk p l e s m args below meth c H locs la Z F hW hS hl hn hls (tk_okc (tk_ok_I.mpr hr) (tk_okt (tk_okt hst))) hR
  refine lv_irem F.1 F.2.1 hd (i32_ne0 hz h1) ?_
  rw [i32_div hx hz h0 h1, ← Int32.ofInt_mul, ← Int32.ofInt_sub, show x - x / z * z = x % z by rw [Int.emod_def, Int.mul_comm]]; exact h
theorem tr_ldiv {x z : Int} (hd : decode f.2.1 pc = .ok (.ldiv, 1)) (h0 : 0 ≤ x) (h1 : 0 < z) (kk : Ok G f (pc + 1) ls (xL (x / z) :: st) S M k n Q) : Ok G f pc ls (xL z :: xL x :: st) S M k n Q := by
  intro p l e s m args below meth c H locs la Z F hW hS hl hn hls hst hR
  have hz := tk_ok_L.mp (hst _ List.mem_cons_self)
  have hx := tk_ok_L.mp (hst _ (List.mem_cons_of_mem _ List.mem_cons_self))
  have hr : tk_r64 (x / z) := by
    have h2 := Int.ediv_nonneg h0 (Int.le_of_lt h1)
    have h3 := Int.ediv_le_self z h0
    unfold tk_r64 at *; omega
  have h := kk p l e s m args below meth c H locs la Z F hW hS hl hn hls (tk_okc (tk_ok_L.mpr hr) (tk_okt (tk_okt hst))) hR
  refine lv_ldiv F.1 F.2.1 hd (i64_ne0 hz h1) ?_
  rw [i64_div hx hz h0 h1]; exact h
theorem tr_lrem {x z : Int} (hd : decode f.2.1 pc = .ok (.lrem, 1)) (h0 : 0 ≤ x) (h1 : 0 < z) (kk : Ok G f (pc + 1) ls (xL (x % z) :: st) S M k n Q) : Ok G f pc ls (xL z :: xL x :: st) S M k n Q := by
  intro p l e s m args below meth c H locs la Z F hW hS hl hn hls hst hR
  have hz := tk_ok_L.mp (hst _ List.mem_cons_self)
  have hx := tk_ok_L.mp (hst _ (List.mem_cons_of_mem _ List.mem_cons_self))
  have hr : tk_r64 (x % z) := by
    have h2 := Int.emod_nonneg x (Int.ne_of_gt h1)
    have h3 := Int.emod_lt_of_pos x h1
    unfold tk_r64 at *; omega
  have h := kk p l e s m args below meth c H locs la Z F hW hS hl hn hls (tk_okc (tk_ok_L.mpr hr) (tk_okt (tk_okt hst))) hR
  refine lv_lrem F.1 F.2.1 hd (i64_ne0 hz h1) ?_
  rw [i64_div hx hz h0 h1, ← Int64.ofInt_mul, ← Int64.ofInt_sub, show x - x / z * z = x % z by rw [Int.emod_def, Int.mul_comm]]; exact h
theorem tr_ladd {x z : Int} (hd : decode f.2.1 pc = .ok (.ladd, 1)) (hr : tk_r64 (x + z)) (kk : Ok G f (pc + 1) ls (xL (x + z) :: st) S M k n Q) : Ok G f pc ls (xL z :: xL x :: st) S M k n Q := by
  intro p l e s m args below meth c H locs la Z F hW hS hl hn hls hst hR
  have h := kk p l e s m args below meth c H locs la Z F hW hS hl hn hls (tk_okc (tk_ok_L.mpr hr) (tk_okt (tk_okt hst))) hR
  refine lv_ladd F.1 F.2.1 hd ?_
  rw [← Int64.ofInt_add]; exact h
theorem tr_i2l {x : Int} (hd : decode f.2.1 pc = .ok (.i2l, 1)) (kk : Ok G f (pc + 1) ls (xL x :: st) S M k n Q) : Ok G f pc ls (xI x :: st) S M k n Q := by
  intro p l e s m args below meth c H locs la Z F hW hS hl hn hls hst hR
  have hx := tk_ok_I.mp (hst _ List.mem_cons_self)
  have hr : tk_r64 x := by unfold tk_r64; unfold tk_r32 at hx; omega
  exact lv_i2l F.1 F.2.1 hd (by rw [← Int64.toInt_inj, Int32.toInt_toInt64, i32_to hx, i64_to hr]) (kk p l e s m args below meth c H locs la Z F hW hS hl hn hls (tk_okc (tk_ok_L.mpr hr) (tk_okt hst)) hR)
theorem tk_bmod32 (x : Int) : tk_r32 (x.bmod (2 ^ 32)) := by
  have h1 := Int.le_bmod (x := x) (m := 2 ^ 32) (by decide)
  have h2 := Int.bmod_lt (x := x) (m := 2 ^ 32) (by decide)
  unfold tk_r32; omega
theorem tr_l2i {x : Int} (hd : decode f.2.1 pc = .ok (.l2i, 1)) (kk : Ok G f (pc + 1) ls (xI (x.bmod (2 ^ 32)) :: st) S M k n Q) : Ok G f pc ls (xL x :: st) S M k n Q := by
  intro p l e s m args below meth c H locs la Z F hW hS hl hn hls hst hR
  have hx := tk_ok_L.mp (hst _ List.mem_cons_self)
  exact lv_l2i F.1 F.2.1 hd (by rw [← Int32.toInt_inj, Int64.toInt_toInt32, i64_to hx, i32_to (tk_bmod32 x)]) (kk p l e s m args below meth c H locs la Z F hW hS hl hn hls (tk_okc (tk_ok_I.mpr (tk_bmod32 x)) (tk_okt hst)) hR)
theorem tk_bmod8 (x : Int) : tk_r32 (x.bmod (2 ^ 8)) := by
  have h1 := Int.le_bmod (x := x) (m := 2 ^ 8) (by decide)
  have h2 := Int.bmod_lt (x := x) (m := 2 ^ 8) (by decide)
  unfold tk_r32; omega
theorem tk_bmod16 (x : Int) : tk_r32 (x.bmod (2 ^ 16)) := by
  have h1 := Int.le_bmod (x := x) (m := 2 ^ 16) (by decide)
  have h2 := Int.bmod_lt (x := x) (m := 2 ^ 16) (by decide)
  unfold tk_r32; omega
theorem tr_i2b {x : Int} (hd : decode f.2.1 pc = .ok (.i2b, 1)) (kk : Ok G f (pc + 1) ls (xI (x.bmod (2 ^ 8)) :: st) S M k n Q) : Ok G f pc ls (xI x :: st) S M k n Q := by
  intro p l e s m args below meth c H locs la Z F hW hS hl hn hls hst hR
  have hx := tk_ok_I.mp (hst _ List.mem_cons_self)
  exact lv_i2b F.1 F.2.1 hd (by rw [← Int32.toInt_inj, Int8.toInt_toInt32, Int32.toInt_toInt8, i32_to hx, i32_to (tk_bmod8 x)]) (kk p l e s m args below meth c H locs la Z F hW hS hl hn hls (tk_okc (tk_ok_I.mpr (tk_bmod8 x)) (tk_okt hst)) hR)
theorem tr_i2s {x : Int} (hd : decode f.2.1 pc = .ok (.i2s, 1)) (kk : Ok G f (pc + 1) ls (xI (x.bmod (2 ^ 16)) :: st) S M k n Q) : Ok G f pc ls (xI x :: st) S M k n Q := by
  intro p l e s m args below meth c H locs la Z F hW hS hl hn hls hst hR
  have hx := tk_ok_I.mp (hst _ List.mem_cons_self)
  exact lv_i2s F.1 F.2.1 hd (by rw [← Int32.toInt_inj, Int16.toInt_toInt32, Int32.toInt_toInt16, i32_to hx, i32_to (tk_bmod16 x)]) (kk p l e s m args below meth c H locs la Z F hW hS hl hn hls (tk_okc (tk_ok_I.mpr (tk_bmod16 x)) (tk_okt hst)) hR)
/-- the law's own bits: any number will do, if it is the same one -/
def tk_iand (x z : Int) : Int := (Int32.ofInt x &&& Int32.ofInt z).toInt
def tk_land (x z : Int) : Int := (Int64.ofInt x &&& Int64.ofInt z).toInt
def tk_lor (x z : Int) : Int := (Int64.ofInt x ||| Int64.ofInt z).toInt
def tk_lshl (x z : Int) : Int := (Int64.ofInt x <<< ((Int32.ofInt z).toInt64 &&& 63)).toInt
theorem tk_r32_of (x : Int32) : tk_r32 x.toInt := by have h1 := Int32.le_toInt x; have h2 := Int32.toInt_lt x; unfold tk_r32; omega
theorem tk_r64_of (x : Int64) : tk_r64 x.toInt := by have h1 := Int64.le_toInt x; have h2 := Int64.toInt_lt x; unfold tk_r64; omega
theorem tr_iand {x z : Int} (hd : decode f.2.1 pc = .ok (.iand, 1)) (kk : Ok G f (pc + 1) ls (xI (tk_iand x z) :: st) S M k n Q) : Ok G f pc ls (xI z :: xI x :: st) S M k n Q := by
  intro p l e s m args below meth c H locs la Z F hW hS hl hn hls hst hR
  have h := kk p l e s m args below meth c H locs la Z F hW hS hl hn hls (tk_okc (tk_ok_I.mpr (tk_r32_of _)) (tk_okt (tk_okt hst))) hR
  refine lv_iand F.1 F.2.1 hd ?_
  rw [← Int32.ofInt_toInt (Int32.ofInt x &&& Int32.ofInt z)]; exact h
theorem tr_land {x z : Int} (hd : decode f.2.1 pc = .ok (.land, 1)) (kk : Ok G f (pc + 1) ls (xL (tk_land x z) :: st) S M k n Q) : Ok G f pc ls (xL z :: xL x :: st) S M k n Q := by
  intro p l e s m args below meth c H locs la Z F hW hS hl hn hls hst hR
  have h := kk p l e s m args below meth c H locs la Z F hW hS hl hn hls (tk_okc (tk_ok_L.mpr (tk_r64_of _)) (tk_okt (tk_okt hst))) hR
  refine lv_land F.1 F.2.1 hd ?_
  rw [← Int64.ofInt_toInt (Int64.ofInt x &&& Int64.ofInt z)]; exact h
theorem tr_lor {x z : Int} (hd : decode f.2.1 pc = .ok (.lor, 1)) (kk : Ok G f (pc + 1) ls (xL (tk_lor x z) :: st) S M k n Q) : Ok G f pc ls (xL z :: xL x :: st) S M k n Q := by
  intro p l e s m args below meth c H locs la Z F hW hS hl hn hls hst hR
  have h := kk p l e s m args below meth c H locs la Z F hW hS hl hn hls (tk_okc (tk_ok_L.mpr (tk_r64_of _)) (tk_okt (tk_okt hst))) hR
  refine lv_lor F.1 F.2.1 hd ?_
  rw [← Int64.ofInt_toInt (Int64.ofInt x ||| Int64.ofInt z)]; exact h
theorem tr_lshl {x z : Int} (hd : decode f.2.1 pc = .ok (.lshl, 1)) (kk : Ok G f (pc + 1) ls (xL (tk_lshl x z) :: st) S M k n Q) : Ok G f pc ls (xI z :: xL x :: st) S M k n Q := by
  intro p l e s m args below meth c H locs la Z F hW hS hl hn hls hst hR
  have h := kk p l e s m args below meth c H locs la Z F hW hS hl hn hls (tk_okc (tk_ok_L.mpr (tk_r64_of _)) (tk_okt (tk_okt hst))) hR
  refine lv_lshl F.1 F.2.1 hd rfl ?_
  rw [← Int64.ofInt_toInt (Int64.ofInt x <<< ((Int32.ofInt z).toInt64 &&& 63))]; exact h
def tk_cmp (x z : Int) : Int := if z < x then 1 else if x = z then 0 else -1
theorem tr_lcmp {x z : Int} (hd : decode f.2.1 pc = .ok (.lcmp, 1)) (kk : Ok G f (pc + 1) ls (xI (tk_cmp x z) :: st) S M k n Q) : Ok G f pc ls (xL z :: xL x :: st) S M k n Q := by
  intro p l e s m args below meth c H locs la Z F hW hS hl hn hls hst hR
  have hz := tk_ok_L.mp (hst _ List.mem_cons_self)
  have hx := tk_ok_L.mp (hst _ (List.mem_cons_of_mem _ List.mem_cons_self))
  have hr : tk_r32 (tk_cmp x z) := by unfold tk_cmp tk_r32; split <;> (try split) <;> omega
  have h := kk p l e s m args below meth c H locs la Z F hW hS hl hn hls (tk_okc (tk_ok_I.mpr hr) (tk_okt (tk_okt hst))) hR
  refine W.lcmp F.1 F.2.1 hd ?_
  have h2 : lg_cmp (Int64.ofInt x) (Int64.ofInt z) = Int32.ofInt (tk_cmp x z) := by
    unfold lg_cmp tk_cmp
    simp only [gt_iff_lt, Int64.lt_iff_toInt_lt, ← Int64.toInt_inj, i64_to hz, i64_to hx]
    split
    · rfl
    · split <;> rfl
  rw [h2]; exact h
theorem tr_table_in {x dflt lo hi off : Int} {offs : Array Int} {len tgt : Nat} (hd : decode f.2.1 pc = .ok (.tableswitch dflt lo hi offs, len)) (h1 : ¬ x < lo) (h2 : ¬ hi < x) (ho : offs[(x - lo).toNat]? = some off) (ht : (pc : Int) + off = (tgt : Int)) (kk : Ok G f tgt ls st S M k n Q) : Ok G f pc ls (xI x :: st) S M k n Q := by
  intro p l e s m args below meth c H locs la Z F hW hS hl hn hls hst hR
  have hx := tk_ok_I.mp (hst _ List.mem_cons_self)
  exact lv_tableIn F.1 F.2.1 hd (by rw [i32_to hx]; exact h1) (by rw [i32_to hx]; exact h2) (by rw [i32_to hx]; exact ho) ht (kk p l e s m args below meth c H locs la Z F hW hS hl hn hls (tk_okt hst) hR)
theorem tr_table_out {x dflt lo hi : Int} {offs : Array Int} {len tgt : Nat} (hd : decode f.2.1 pc = .ok (.tableswitch dflt lo hi offs, len)) (h : x < lo ∨ hi < x) (ht : (pc : Int) + dflt = (tgt : Int)) (kk : Ok G f tgt ls st S M k n Q) : Ok G f pc ls (xI x :: st) S M k n Q := by
  intro p l e s m args below meth c H locs la Z F hW hS hl hn hls hst hR
  have hx := tk_ok_I.mp (hst _ List.mem_cons_self)
  exact lv_tableOut F.1 F.2.1 hd (by rw [i32_to hx]; exact h) ht (kk p l e s m args below meth c H locs la Z F hW hS hl hn hls (tk_okt hst) hR)
theorem tr_lookup {x dflt off : Int} {ps : Array (Int × Int)} {len tgt : Nat} (hd : decode f.2.1 pc = .ok (.lookupswitch dflt ps, len)) (hp : (ps.toList.zip (ps.toList.drop 1)).all (fun (a, next) => a.1 < next.1) = true) (ho : Op.lookupswitch.offset ps.toList dflt x = off) (ht : (pc : Int) + off = (tgt : Int)) (kk : Ok G f tgt ls st S M k n Q) : Ok G f pc ls (xI x :: st) S M k n Q := by
  intro p l e s m args below meth c H locs la Z F hW hS hl hn hls hst hR
  have hx := tk_ok_I.mp (hst _ List.mem_cons_self)
  exact lv_lookup F.1 F.2.1 hd hp (by rw [i32_to hx]; exact ho) ht (kk p l e s m args below meth c H locs la Z F hW hS hl hn hls (tk_okt hst) hR)
end TkRows2
end
section
section TkMem
variable {G : tk_G} {f : tk_F} {pc : Nat} {ls st : List tk_V} {S : tk_S} {M : tk_M} {k n : Nat} {Q : tk_V → tk_S → tk_M → Prop}
theorem tk_in (ws : List Cond) (ps : List Nat) (hp : ws = ps.filterMap (fun i => lw_tbl[i]?)) (h : ws.all goodWord = true) : ∀ w ∈ ws, w ∈ tk_tb := by
  intro w hw
  have h1 := List.all_eq_true.mp h w hw
  rw [hp] at hw
  obtain ⟨i, -, hi⟩ := List.mem_filterMap.mp hw
  exact List.mem_filter.mpr ⟨List.mem_of_getElem? hi, h1⟩
theorem tk_sg_at {c : Int} {q : tk_C} (h : tk_sg S c = some q) : 0 ≤ c ∧ S[c.toNat]? = some q := by
  unfold tk_sg at h
  by_cases h0 : c < 0
  · rw [if_pos h0] at h; cases h
  · rw [if_neg h0] at h; exact ⟨by omega, h⟩
theorem tk_ws_at {c : Int} {q : tk_C} (h : tk_sg S c = some q) : (tk_ws G S M)[c.toNat]? = some (G.1 + c.toNat, tk_ent G q (M c)) := by
  obtain ⟨h0, h1⟩ := tk_sg_at h
  unfold tk_ws
  rw [List.getElem?_mapIdx, h1]
  show some (G.1 + c.toNat, tk_ent G q (M ((c.toNat : Nat) : Int))) = _
  rw [show ((c.toNat : Nat) : Int) = c by omega]
theorem tk_ws_D (G : tk_G) (S : tk_S) (M : tk_M) : va_D (tk_A G) (tk_ws G S M) := by
  refine ⟨fun i j p q hi hj hpq => ?_, fun i q hi => ?_⟩
  · unfold tk_ws at hi hj
    rw [List.getElem?_mapIdx] at hi hj
    cases h1 : S[i]? with
    | none => rw [h1] at hi; cases hi
    | some a =>
      cases h2 : S[j]? with
      | none => rw [h2] at hj; cases hj
      | some b =>
        rw [h1] at hi; rw [h2] at hj
        cases hi; cases hj
        have h3 : G.1 + i = G.1 + j := hpq
        omega
  · unfold tk_ws at hi
    rw [List.getElem?_mapIdx] at hi
    cases h1 : S[i]? with
    | none => rw [h1] at hi; cases hi
    | some a => rw [h1] at hi; cases hi; exact Nat.le_add_right _ _
/-- one cell anew -/
theorem tk_ws_set {S' : tk_S} {M' : tk_M} {c : Int} {q : tk_C} (h0 : 0 ≤ c) (hlen : S'.length = S.length) (hq : S'[c.toNat]? = some q) (ho : ∀ i : Nat, i ≠ c.toNat → S'[i]? = S[i]? ∧ M' (i : Int) = M (i : Int)) : (tk_ws G S M).set c.toNat (G.1 + c.toNat, tk_ent G q (M' c)) = tk_ws G S' M' := by
  apply List.ext_getElem?
  intro i
  have hl : c.toNat < (tk_ws G S M).length := by
    unfold tk_ws
    rw [List.length_mapIdx, ← hlen]
    exact (List.getElem?_eq_some_iff.mp hq).1
  by_cases hi : i = c.toNat
  · subst hi
    rw [List.getElem?_set_self hl]
    unfold tk_ws
    rw [List.getElem?_mapIdx, hq]
    show _ = some (G.1 + c.toNat, tk_ent G q (M' ((c.toNat : Nat) : Int)))
    rw [show ((c.toNat : Nat) : Int) = c by omega]
  · rw [List.getElem?_set_ne (fun h => hi h.symm)]
    unfold tk_ws
    rw [List.getElem?_mapIdx, List.getElem?_mapIdx, (ho i hi).1, (ho i hi).2]
theorem tk_mu_at (M : tk_M) (c i v : Int) : tk_mu M c i v c i = v := by simp [tk_mu]
theorem tk_mu_c {M : tk_M} {c i v c' : Int} (h : c' ≠ c) : tk_mu M c i v c' = M c' := by funext j; simp [tk_mu, h]
theorem tk_mu_i {M : tk_M} {c i v c' i' : Int} (h : i' ≠ i) : tk_mu M c i v c' i' = M c' i' := by simp [tk_mu, h]
theorem tk_mok_mu {c i v : Int} {q : tk_C} (h : tk_mok S M) (hs : tk_sg S c = some q) (hv : tk_rng q.1 v) : tk_mok S (tk_mu M c i v) := by
  obtain ⟨h0, h1⟩ := tk_sg_at hs
  intro c' q' hq j hj
  by_cases e : (c' : Int) = c ∧ (j : Int) = i
  · have e2 : c' = c.toNat := by omega
    subst e2
    rw [h1] at hq
    cases hq
    rw [e.1, e.2, tk_mu_at]
    exact hv
  · have e3 : tk_mu M c i v c' j = M c' j := by unfold tk_mu; rw [if_neg e]
    rw [e3]
    exact h c' q' hq j hj
theorem tk_mok_at {c i : Int} {q : tk_C} (h : tk_mok S M) (hs : tk_sg S c = some q) (h1 : 0 ≤ i) (h2 : i < q.2.1) : tk_rng q.1 (M c i) := by
  obtain ⟨h0, h3⟩ := tk_sg_at hs
  have h4 := h c.toNat q h3 i.toNat (by omega)
  rw [show ((c.toNat : Nat) : Int) = c by omega, show ((i.toNat : Nat) : Int) = i by omega] at h4
  exact h4
/-- a class with its fields: known to the tables -/
def tk_cls (kd N : Nat) : Prop := vwCl[kd]? = some (RX_of kd, TX_of kd, N) ∧ (∀ w ∈ u_ws (RX_of kd) (TX_of kd) N, w ∈ tk_tb) ∧ (∀ j, j < N → parseFieldDescriptor (TX_of kd j).2.2.1 = some (tyX_of kd j)) ∧ (∀ a, a < N → ∀ b, b < N → a ≠ b → (TX_of kd a).2.1 ≠ (TX_of kd b).2.1) ∧ kd < 20
/-- a field as an instruction names it -/
def tk_fi (own : String) (idx kd N j tg : Nat) : Prop := Cond.fieldLink own idx (TX_of kd j).1 (TX_of kd j).2.1 (TX_of kd j).2.2.1 ∈ tk_tb ∧ tk_cls kd N ∧ j < N ∧ tk_tag kd j = tg
theorem tk_ent_o {kd N : Nat} {rl : List Int} {g : Int → Int} (h : kd < 20) : tk_ent G (kd, N, rl) g = .inr (kd, (List.range N).map (fun i => if tk_tag kd i = 2 then tk_e G (xR (rl.getD i (-1))) else tk_e G (xI (g i)))) := by
  unfold tk_ent
  rw [if_neg (by show ¬ kd = 20; omega), if_neg (by show ¬ kd = 21; omega), if_neg (by show ¬ kd = 22; omega), if_neg (by show ¬ kd = 23; omega), if_neg (by show ¬ kd = 24; omega)]
theorem tr_geti {own : String} {idx kd N j : Nat} {c ji : Int} {rl : List Int} (hd : decode f.2.1 pc = .ok (.getfield idx, 3)) (hf : tk_fi own idx kd N j 0) (ho : f.1.cls = own) (hs : tk_sg S c = some (kd, N, rl)) (hji : (j : Int) = ji) (kk : Ok G f (pc + 3) ls (xI (M c ji) :: st) S M k n Q) : Ok G f pc ls (xR c :: st) S M k n Q := by
  intro p l e s m args below meth c0 H locs la Z F hW hS hl hn hls hst hR
  subst hji
  obtain ⟨h1, ⟨c1, c2, c3, c4, c5⟩, h3, h4⟩ := hf
  obtain ⟨g0, g1⟩ := tk_sg_at hs
  have hr : tk_r32 (M c j) := by
    have := tk_mok_at hW.2 hs (i := (j : Int)) (by omega) (by show (j : Int) < (N : Int); omega)
    unfold tk_rng at this
    rwa [if_neg (by show ¬ kd = 21; omega)] at this
  have he := tk_ws_at (G := G) (M := M) hs
  rw [tk_ent_o c5] at he
  rw [List.map_cons, tk_eR g0]
  refine va_get F.1 F.2.1 F.2.2.2.2.1 c2 F.2.2.2.1 F.2.2.2.2.2.1.1 hW.1 c.toNat he c1 j h3 (F.2.2.2.2.1 _ (by rw [ho]; exact h1)) (fun _ h => h) (v := tk_e G (xI (M c j))) ?_ hd (kk p l e s m args below meth c0 H locs la Z F hW hS hl hn hls (tk_okc (tk_ok_I.mpr hr) (tk_okt hst)) hR)
  rw [List.getElem?_map, List.getElem?_range h3]
  show some (if tk_tag kd j = 2 then _ else _) = _
  rw [if_neg (by rw [h4]; decide)]
theorem tr_getr {own : String} {idx kd N j : Nat} {c x : Int} {rl : List Int} (hd : decode f.2.1 pc = .ok (.getfield idx, 3)) (hf : tk_fi own idx kd N j 2) (ho : f.1.cls = own) (hs : tk_sg S c = some (kd, N, rl)) (hx : rl.getD j (-1) = x) (kk : Ok G f (pc + 3) ls (xR x :: st) S M k n Q) : Ok G f pc ls (xR c :: st) S M k n Q := by
  intro p l e s m args below meth c0 H locs la Z F hW hS hl hn hls hst hR
  subst hx
  obtain ⟨h1, ⟨c1, c2, c3, c4, c5⟩, h3, h4⟩ := hf
  obtain ⟨g0, g1⟩ := tk_sg_at hs
  have he := tk_ws_at (G := G) (M := M) hs
  rw [tk_ent_o c5] at he
  rw [List.map_cons, tk_eR g0]
  refine va_get F.1 F.2.1 F.2.2.2.2.1 c2 F.2.2.2.1 F.2.2.2.2.2.1.1 hW.1 c.toNat he c1 j h3 (F.2.2.2.2.1 _ (by rw [ho]; exact h1)) (fun _ h => h) (v := tk_e G (xR (rl.getD j (-1)))) ?_ hd (kk p l e s m args below meth c0 H locs la Z F hW hS hl hn hls (tk_okc (tk_ok_R _) (tk_okt hst)) hR)
  rw [List.getElem?_map, List.getElem?_range h3]
  show some (if tk_tag kd j = 2 then _ else _) = _
  rw [if_pos h4]
theorem tk_fs_set {kd N j : Nat} {rl rl' : List Int} {g g' : Int → Int} {v : Value} (hv : (if tk_tag kd j = 2 then tk_e G (xR (rl'.getD j (-1))) else tk_e G (xI (g' j))) = v) (ho : ∀ i : Nat, i ≠ j → rl'.getD i (-1) = rl.getD i (-1) ∧ g' (i : Int) = g (i : Int)) :
    ((List.range N).map (fun i => if tk_tag kd i = 2 then tk_e G (xR (rl.getD i (-1))) else tk_e G (xI (g i)))).set j v = (List.range N).map (fun i => if tk_tag kd i = 2 then tk_e G (xR (rl'.getD i (-1))) else tk_e G (xI (g' i))) := by
  apply List.ext_getElem?
  intro i
  by_cases hi : i < N
  · by_cases hij : i = j
    · subst hij
      rw [List.getElem?_set_self (by simpa using hi), List.getElem?_map, List.getElem?_range hi]
      show _ = some (if tk_tag kd i = 2 then _ else _)
      rw [hv]
    · rw [List.getElem?_set_ne (fun h => hij h.symm), List.getElem?_map, List.getElem?_map, List.getElem?_range hi]
      show some (if tk_tag kd i = 2 then tk_e G (xR (rl.getD i (-1))) else tk_e G (xI (g i))) = some (if tk_tag kd i = 2 then tk_e G (xR (rl'.getD i (-1))) else tk_e G (xI (g' i)))
      rw [(ho i hij).1, (ho i hij).2]
  · rw [List.getElem?_eq_none (by simpa using hi), List.getElem?_eq_none (by simpa using hi)]
theorem tr_puti {own : String} {idx kd N j : Nat} {c ji x : Int} {rl : List Int} (hd : decode f.2.1 pc = .ok (.putfield idx, 3)) (hf : tk_fi own idx kd N j 0) (ho : f.1.cls = own) (hfin : (TX_of kd j).2.2.2 = false ∨ ((TX_of kd j).2.2.2 = true ∧ f.1.name = "<init>" ∧ (TX_of kd j).1 = f.1.cls)) (hty : tyX_of kd j = .int ∨ (tyX_of kd j = .boolean ∧ (x = 0 ∨ x = 1))) (hs : tk_sg S c = some (kd, N, rl)) (hji : (j : Int) = ji) (kk : Ok G f (pc + 3) ls st S (tk_mu M c ji x) k n Q) : Ok G f pc ls (xI x :: xR c :: st) S M k n Q := by
  intro p l e s m args below meth c0 H locs la Z F hW hS hl hn hls hst hR
  subst hji
  obtain ⟨h1, ⟨c1, c2, c3, c4, c5⟩, h3, h4⟩ := hf
  obtain ⟨g0, g1⟩ := tk_sg_at hs
  have hx := tk_ok_I.mp (hst _ List.mem_cons_self)
  have he := tk_ws_at (G := G) (M := M) hs
  rw [tk_ent_o c5] at he
  have hset : (tk_ws G S M).set c.toNat (G.1 + c.toNat, .inr (kd, ((List.range N).map (fun i => if tk_tag kd i = 2 then tk_e G (xR (rl.getD i (-1))) else tk_e G (xI (M c i)))).set j (.int (Int32.ofInt x)))) = tk_ws G S (tk_mu M c j x) := by
    rw [← tk_ws_set (S := S) (S' := S) (M := M) (M' := tk_mu M c j x) (q := (kd, N, rl)) g0 rfl g1 (fun i hi => ⟨rfl, tk_mu_c (by omega)⟩), tk_ent_o c5, tk_fs_set (rl' := rl) (g' := tk_mu M c j x c)]
    · rw [if_neg (by rw [h4]; decide), tk_mu_at]; rfl
    · exact fun i hi => ⟨rfl, tk_mu_i (by omega)⟩
  have hn2 : narrow (tyX_of kd j) (.int (Int32.ofInt x)) = .int (Int32.ofInt x) := by
    rcases hty with h | ⟨h, h5 | h5⟩ <;> rw [h]
    · rfl
    · subst h5; decide
    · subst h5; decide
  have hfit : fits (tyX_of kd j) (.int (Int32.ofInt x)) = true := by
    rcases hty with h | ⟨h, h5 | h5⟩ <;> rw [h]
    · rfl
    · subst h5; decide
    · subst h5; decide
  have go : ∀ (H1 : Heap) (locs1 : List Loc), va_P G.2.1 vwCl ((tk_ws G S M).set c.toNat (G.1 + c.toNat, .inr (kd, ((List.range N).map (fun i => if tk_tag kd i = 2 then tk_e G (xR (rl.getD i (-1))) else tk_e G (xI (M c i)))).set j (.int (Int32.ofInt x))))) H1 → va_S (tk_A G) s.heap H1 locs1 → W p l e (tk_rm f) s m args below meth c0 H1 locs1 k n Z (F0 m (pc + 3) la (st.map (tk_e G))) := by
    intro H1 locs1 hP1 hS1
    rw [hset] at hP1
    exact kk p l e s m args below meth c0 H1 locs1 la Z F ⟨hP1, tk_mok_mu hW.2 hs (by unfold tk_rng; rw [if_neg (by show ¬ kd = 21; omega)]; exact hx)⟩ hS1 hl hn hls (tk_okt (tk_okt hst)) hR
  have hlen : j < ((List.range N).map (fun i => if tk_tag kd i = 2 then tk_e G (xR (rl.getD i (-1))) else tk_e G (xI (M c i)))).length := by simpa using h3
  rw [List.map_cons, List.map_cons, tk_eR g0]
  rcases hfin with h | ⟨h, h7, h8⟩
  · exact va_put F.1 F.2.1 F.2.2.2.2.1 c2 (tyX_of kd) c3 c4 F.2.2.2.1 F.2.2.2.2.2.1.1 hW.1 (tk_ws_D G S M) hS c.toNat he c1 j h3 (F.2.2.2.2.1 _ (by rw [ho]; exact h1)) (fun _ h => h) h (c3 j h3) hn2 hfit hlen hd (fun H1 locs1 hP1 _ hS1 => go H1 locs1 hP1 hS1)
  · exact va_putF F.1 F.2.1 F.2.2.2.2.1 c2 (tyX_of kd) c3 c4 F.2.2.2.1 F.2.2.2.2.2.1.1 hW.1 (tk_ws_D G S M) hS c.toNat he c1 j h3 (F.2.2.2.2.1 _ (by rw [ho]; exact h1)) (fun _ h => h) h (F.2.2.2.2.2.2.trans h7) h8 (c3 j h3) hn2 hfit hlen hd (fun H1 locs1 hP1 _ hS1 => go H1 locs1 hP1 hS1)
end TkMem
end
section
section TkArr
variable {G : tk_G} {f : tk_F} {pc : Nat} {ls st : List tk_V} {S : tk_S} {M : tk_M} {k n : Nat} {Q : tk_V → tk_S → tk_M → Prop}
theorem tr_iald {c i : Int} {N : Nat} {rl : List Int} (hd : decode f.2.1 pc = .ok (.iaload, 1)) (hs : tk_sg S c = some (20, N, rl)) (h0 : 0 ≤ i) (h1 : i < N) (kk : Ok G f (pc + 1) ls (xI (M c i) :: st) S M k n Q) : Ok G f pc ls (xI i :: xR c :: st) S M k n Q := by
  intro p l e s m args below meth c0 H locs la Z F hW hS hl hn hls hst hR
  have hi := tk_ok_I.mp (hst _ List.mem_cons_self)
  have he := tk_ws_at (G := G) (M := M) hs
  have hr : tk_r32 (M c i) := tk_mok_at hW.2 hs h0 h1
  have h := kk p l e s m args below meth c0 H locs la Z F hW hS hl hn hls (tk_okc (tk_ok_I.mpr hr) (tk_okt (tk_okt hst))) hR
  rw [List.map_cons, List.map_cons, tk_eR (tk_sg_at hs).1]
  refine va_iald F.1 F.2.1 F.2.2.2.2.2.1.1 hW.1 c.toNat 0 he rfl (i32_in hi h0 h1) hd ?_
  rw [i32_nat hi, show ((i.toNat : Nat) : Int) = i by omega]
  exact h
theorem tr_bald {c i : Int} {N : Nat} {rl : List Int} (hd : decode f.2.1 pc = .ok (.baload, 1)) (hs : tk_sg S c = some (22, N, rl)) (h0 : 0 ≤ i) (h1 : i < N) (kk : Ok G f (pc + 1) ls (xI (M c i) :: st) S M k n Q) : Ok G f pc ls (xI i :: xR c :: st) S M k n Q := by
  intro p l e s m args below meth c0 H locs la Z F hW hS hl hn hls hst hR
  have hi := tk_ok_I.mp (hst _ List.mem_cons_self)
  have he := tk_ws_at (G := G) (M := M) hs
  have hr : tk_r32 (M c i) := tk_mok_at hW.2 hs h0 h1
  have h := kk p l e s m args below meth c0 H locs la Z F hW hS hl hn hls (tk_okc (tk_ok_I.mpr hr) (tk_okt (tk_okt hst))) hR
  rw [List.map_cons, List.map_cons, tk_eR (tk_sg_at hs).1]
  refine va_bald F.1 F.2.1 F.2.2.2.2.2.1.1 hW.1 c.toNat 2 he rfl (i32_in hi h0 h1) hd ?_
  rw [i32_nat hi, show ((i.toNat : Nat) : Int) = i by omega]
  exact h
theorem tr_lald {c i : Int} {N : Nat} {rl : List Int} (hd : decode f.2.1 pc = .ok (.laload, 1)) (hs : tk_sg S c = some (21, N, rl)) (h0 : 0 ≤ i) (h1 : i < N) (kk : Ok G f (pc + 1) ls (xL (M c i) :: st) S M k n Q) : Ok G f pc ls (xI i :: xR c :: st) S M k n Q := by
  intro p l e s m args below meth c0 H locs la Z F hW hS hl hn hls hst hR
  have hi := tk_ok_I.mp (hst _ List.mem_cons_self)
  have he := tk_ws_at (G := G) (M := M) hs
  have hr : tk_r64 (M c i) := tk_mok_at hW.2 hs h0 h1
  have h := kk p l e s m args below meth c0 H locs la Z F hW hS hl hn hls (tk_okc (tk_ok_L.mpr hr) (tk_okt (tk_okt hst))) hR
  rw [List.map_cons, List.map_cons, tk_eR (tk_sg_at hs).1]
  refine va_lald F.1 F.2.1 F.2.2.2.2.2.1.1 hW.1 c.toNat 1 he rfl (i32_in hi h0 h1) hd ?_
  rw [i32_nat hi, show ((i.toNat : Nat) : Int) = i by omega]
  exact h
theorem tr_iast {c i x : Int} {N : Nat} {rl : List Int} (hd : decode f.2.1 pc = .ok (.iastore, 1)) (hs : tk_sg S c = some (20, N, rl)) (h0 : 0 ≤ i) (h1 : i < N) (kk : Ok G f (pc + 1) ls st S (tk_mu M c i x) k n Q) : Ok G f pc ls (xI x :: xI i :: xR c :: st) S M k n Q := by
  intro p l e s m args below meth c0 H locs la Z F hW hS hl hn hls hst hR
  have hx := tk_ok_I.mp (hst _ List.mem_cons_self)
  have hi := tk_ok_I.mp (hst _ (List.mem_cons_of_mem _ List.mem_cons_self))
  have he := tk_ws_at (G := G) (M := M) hs
  obtain ⟨g0, g1⟩ := tk_sg_at hs
  have hset : (tk_ws G S M).set c.toNat (G.1 + c.toNat, .inl (G.2.2.1 0, N, .inl (upd (fun j => Int32.ofInt (M c j)) (Int32.ofInt i).toNatClampNeg (Int32.ofInt x)))) = tk_ws G S (tk_mu M c i x) := by
    rw [← tk_ws_set (S := S) (S' := S) (M := M) (M' := tk_mu M c i x) (q := (20, N, rl)) g0 rfl g1 (fun j hj => ⟨rfl, tk_mu_c (by omega)⟩)]
    show _ = (tk_ws G S M).set c.toNat (G.1 + c.toNat, .inl (G.2.2.1 0, N, .inl (fun j => Int32.ofInt (tk_mu M c i x c j))))
    congr 6
    funext j
    rw [i32_nat hi]
    by_cases hj : j = i.toNat
    · subst hj
      rw [show ((i.toNat : Nat) : Int) = i by omega, tk_mu_at]; simp [upd]
    · rw [tk_mu_i (by omega)]; simp [upd, hj]
  rw [List.map_cons, List.map_cons, List.map_cons, tk_eR g0]
  refine va_iast F.1 F.2.1 F.2.2.2.2.2.1.1 hW.1 (tk_ws_D G S M) hS c.toNat 0 he rfl (i32_in hi h0 h1) hd (fun H1 locs1 hP1 _ hS1 => ?_)
  rw [hset] at hP1
  exact kk p l e s m args below meth c0 H1 locs1 la Z F ⟨hP1, tk_mok_mu hW.2 hs hx⟩ hS1 hl hn hls (tk_okt (tk_okt (tk_okt hst))) hR
theorem tk_nar8 {x : Int} (h0 : -128 ≤ x) (h1 : x ≤ 127) : vp_nar .byte (Int32.ofInt x) = Int32.ofInt x := by
  have hx : tk_r32 x := by unfold tk_r32; omega
  rw [vp_nar_byte, ← Int32.toInt_inj, Int8.toInt_toInt32, Int32.toInt_toInt8, i32_to hx]
  exact Int.bmod_eq_of_le (by omega) (by omega)
theorem tr_bast {c i x : Int} {N : Nat} {rl : List Int} (hd : decode f.2.1 pc = .ok (.bastore, 1)) (hs : tk_sg S c = some (22, N, rl)) (h0 : 0 ≤ i) (h1 : i < N) (hb0 : -128 ≤ x) (hb1 : x ≤ 127) (kk : Ok G f (pc + 1) ls st S (tk_mu M c i x) k n Q) : Ok G f pc ls (xI x :: xI i :: xR c :: st) S M k n Q := by
  intro p l e s m args below meth c0 H locs la Z F hW hS hl hn hls hst hR
  have hx := tk_ok_I.mp (hst _ List.mem_cons_self)
  have hi := tk_ok_I.mp (hst _ (List.mem_cons_of_mem _ List.mem_cons_self))
  have he := tk_ws_at (G := G) (M := M) hs
  obtain ⟨g0, g1⟩ := tk_sg_at hs
  have hset : (tk_ws G S M).set c.toNat (G.1 + c.toNat, .inl (G.2.2.1 2, N, .inl (upd (fun j => Int32.ofInt (M c j)) (Int32.ofInt i).toNatClampNeg (vp_nar .byte (Int32.ofInt x))))) = tk_ws G S (tk_mu M c i x) := by
    rw [← tk_ws_set (S := S) (S' := S) (M := M) (M' := tk_mu M c i x) (q := (22, N, rl)) g0 rfl g1 (fun j hj => ⟨rfl, tk_mu_c (by omega)⟩), tk_nar8 hb0 hb1]
    show _ = (tk_ws G S M).set c.toNat (G.1 + c.toNat, .inl (G.2.2.1 2, N, .inl (fun j => Int32.ofInt (tk_mu M c i x c j))))
    congr 6
    funext j
    rw [i32_nat hi]
    by_cases hj : j = i.toNat
    · subst hj
      rw [show ((i.toNat : Nat) : Int) = i by omega, tk_mu_at]; simp [upd]
    · rw [tk_mu_i (by omega)]; simp [upd, hj]
  rw [List.map_cons, List.map_cons, List.map_cons, tk_eR g0]
  refine va_bast F.1 F.2.1 F.2.2.2.2.2.1.1 hW.1 (tk_ws_D G S M) hS c.toNat 2 he rfl (i32_in hi h0 h1) hd (fun H1 locs1 hP1 _ hS1 => ?_)
  rw [hset] at hP1
  exact kk p l e s m args below meth c0 H1 locs1 la Z F ⟨hP1, tk_mok_mu hW.2 hs hx⟩ hS1 hl hn hls (tk_okt (tk_okt (tk_okt hst))) hR
theorem tr_last {c i x : Int} {N : Nat} {rl : List Int} (hd : decode f.2.1 pc = .ok (.lastore, 1)) (hs : tk_sg S c = some (21, N, rl)) (h0 : 0 ≤ i) (h1 : i < N) (kk : Ok G f (pc + 1) ls st S (tk_mu M c i x) k n Q) : Ok G f pc ls (xL x :: xI i :: xR c :: st) S M k n Q := by
  intro p l e s m args below meth c0 H locs la Z F hW hS hl hn hls hst hR
  have hx := tk_ok_L.mp (hst _ List.mem_cons_self)
  have hi := tk_ok_I.mp (hst _ (List.mem_cons_of_mem _ List.mem_cons_self))
  have he := tk_ws_at (G := G) (M := M) hs
  obtain ⟨g0, g1⟩ := tk_sg_at hs
  have hset : (tk_ws G S M).set c.toNat (G.1 + c.toNat, .inl (G.2.2.1 1, N, .inr (.inl (vp_updL (fun j => Int64.ofInt (M c j)) (Int32.ofInt i).toNatClampNeg (Int64.ofInt x))))) = tk_ws G S (tk_mu M c i x) := by
    rw [← tk_ws_set (S := S) (S' := S) (M := M) (M' := tk_mu M c i x) (q := (21, N, rl)) g0 rfl g1 (fun j hj => ⟨rfl, tk_mu_c (by omega)⟩)]
    show _ = (tk_ws G S M).set c.toNat (G.1 + c.toNat, .inl (G.2.2.1 1, N, .inr (.inl (fun j => Int64.ofInt (tk_mu M c i x c j)))))
    congr 7
    funext j
    rw [i32_nat hi]
    by_cases hj : j = i.toNat
    · subst hj
      rw [show ((i.toNat : Nat) : Int) = i by omega, tk_mu_at]; simp [vp_updL]
    · rw [tk_mu_i (by omega)]; simp [vp_updL, hj]
  rw [List.map_cons, List.map_cons, List.map_cons, tk_eR g0]
  refine va_last F.1 F.2.1 F.2.2.2.2.2.1.1 hW.1 (tk_ws_D G S M) hS c.toNat 1 he rfl (i32_in hi h0 h1) hd (fun H1 locs1 hP1 _ hS1 => ?_)
  rw [hset] at hP1
  exact kk p l e s m args below meth c0 H1 locs1 la Z F ⟨hP1, tk_mok_mu hW.2 hs hx⟩ hS1 hl hn hls (tk_okt (tk_okt (tk_okt hst))) hR
theorem tr_aald {c i x : Int} {kd N : Nat} {rl : List Int} (hd : decode f.2.1 pc = .ok (.aaload, 1)) (hs : tk_sg S c = some (kd, N, rl)) (hk : kd = 23 ∨ kd = 24) (h0 : 0 ≤ i) (h1 : i < N) (hx : rl.getD i.toNat (-1) = x) (kk : Ok G f (pc + 1) ls (xR x :: st) S M k n Q) : Ok G f pc ls (xI i :: xR c :: st) S M k n Q := by
  intro p l e s m args below meth c0 H locs la Z F hW hS hl hn hls hst hR
  have hi := tk_ok_I.mp (hst _ List.mem_cons_self)
  have he := tk_ws_at (G := G) (M := M) hs
  subst hx
  have h := kk p l e s m args below meth c0 H locs la Z F hW hS hl hn hls (tk_okc (tk_ok_R _) (tk_okt (tk_okt hst))) hR
  rw [List.map_cons, List.map_cons, tk_eR (tk_sg_at hs).1]
  rcases hk with rfl | rfl
  · refine va_aldq F.1 F.2.1 F.2.2.2.2.2.1.1 hW.1 c.toNat 3 (C := RX3) he rfl (i32_in hi h0 h1) hd ?_
    rw [i32_nat hi]
    exact h
  · refine va_aldq F.1 F.2.1 F.2.2.2.2.2.1.1 hW.1 c.toNat 4 (C := RX6) he rfl (i32_in hi h0 h1) hd ?_
    rw [i32_nat hi]
    exact h
/-- the rows that are only read -/
theorem tk_ro_at {G : tk_G} {a : Nat} {i : Int} (h0 : 0 ≤ i) (h1 : i < ((G.2.2.2.2 a).length : Int)) (h : ∀ x ∈ G.2.2.2.2 a, tk_r32 x) : tk_r32 ((G.2.2.2.2 a).getD i.toNat 0) := by
  have h2 : i.toNat < (G.2.2.2.2 a).length := by omega
  rw [List.getD_eq_getElem?_getD, List.getElem?_eq_getElem h2]
  exact h _ (List.getElem_mem h2)
theorem tr_sald {a i x : Int} (hd : decode f.2.1 pc = .ok (.iaload, 1)) (ha : 0 ≤ a ∧ a < 3) (h0 : 0 ≤ i) (h1 : i < ((G.2.2.2.2 a.toNat).length : Int)) (hx : (G.2.2.2.2 a.toNat).getD i.toNat 0 = x) (kk : Ok G f (pc + 1) ls (xI x :: st) S M k n Q) : Ok G f pc ls (xI i :: xS a :: st) S M k n Q := by
  intro p l e s m args below meth c0 H locs la Z F hW hS hl hn hls hst hR
  have hi := tk_ok_I.mp (hst _ List.mem_cons_self)
  obtain ⟨t1, t2, t3⟩ := F.2.2.2.2.2.1.2.1 a.toNat (by omega)
  have hr := tk_ro_at h0 h1 t3
  rw [hx] at hr
  have h := kk p l e s m args below meth c0 H locs la Z F hW hS hl hn hls (tk_okc (tk_ok_I.mpr hr) (tk_okt (tk_okt hst))) hR
  rw [List.map_cons, List.map_cons]
  refine va_ti F.1 F.2.1 t1 hS (i32_in hi h0 h1) ?_ hd h
  rw [i32_nat hi, hx]; rfl
theorem tr_slen {a x : Int} (hd : decode f.2.1 pc = .ok (.arraylength, 1)) (ha : 0 ≤ a ∧ a < 3) (hx : ((G.2.2.2.2 a.toNat).length : Int) = x) (kk : Ok G f (pc + 1) ls (xI x :: st) S M k n Q) : Ok G f pc ls (xS a :: st) S M k n Q := by
  intro p l e s m args below meth c0 H locs la Z F hW hS hl hn hls hst hR
  obtain ⟨t1, t2, t3⟩ := F.2.2.2.2.2.1.2.1 a.toNat (by omega)
  have hr : tk_r32 x := by unfold tk_r32; omega
  have h := kk p l e s m args below meth c0 H locs la Z F hW hS hl hn hls (tk_okc (tk_ok_I.mpr hr) (tk_okt hst)) hR
  rw [List.map_cons]
  refine va_tlen F.1 F.2.1 t1 hS ?_ hd h
  rw [← hx, Int32.ofInt_eq_ofNat]
theorem tr_getS {own : String} {idx : Nat} (hd : decode f.2.1 pc = .ok (.getstatic idx, 3)) (hf : Cond.fieldLink own idx RX2 "S" "[I" ∈ tk_tb) (ho : f.1.cls = own) (kk : Ok G f (pc + 3) ls (xS 1 :: st) S M k n Q) : Ok G f pc ls st S M k n Q := by
  intro p l e s m args below meth c0 H locs la Z F hW hS hl hn hls hst hR
  exact va_gets F.1 F.2.1 F.2.2.2.2.2.1.2.2.1 hS F.2.2.2.1 (F.2.2.2.2.1 _ (by rw [ho]; exact hf)) (fun _ h => h) hd (kk p l e s m args below meth c0 H locs la Z F hW hS hl hn hls (tk_okc (tk_ok_S 1) hst) hR)
theorem tr_getT {own : String} {idx : Nat} (hd : decode f.2.1 pc = .ok (.getstatic idx, 3)) (hf : Cond.fieldLink own idx RX2 "T" "[I" ∈ tk_tb) (ho : f.1.cls = own) (kk : Ok G f (pc + 3) ls (xS 2 :: st) S M k n Q) : Ok G f pc ls st S M k n Q := by
  intro p l e s m args below meth c0 H locs la Z F hW hS hl hn hls hst hR
  exact va_gets F.1 F.2.1 F.2.2.2.2.2.1.2.2.2.1 hS F.2.2.2.1 (F.2.2.2.2.1 _ (by rw [ho]; exact hf)) (fun _ h => h) hd (kk p l e s m args below meth c0 H locs la Z F hW hS hl hn hls (tk_okc (tk_ok_S 2) hst) hR)
end TkArr
end
section
section TkCall
variable {G : tk_G} {f : tk_F} {pc : Nat} {ls st : List tk_V} {S : tk_S} {M : tk_M} {k n : Nat} {Q : tk_V → tk_S → tk_M → Prop}
theorem tk_size {H : Heap} {p : Program} {l : Launch} {e : Env} {R : Room} {s T : State} {m : MethodId} {args : Array Value} {below : List Frame} {meth : Method} {c : Code} {locs : List Loc} (hW : tk_W G S M H) (hS : va_S (tk_A G) s.heap H locs) (hz : s.heap.size + k = G.1 + S.length) (hg : G.1 ≤ s.heap.size) (hT : T.heap = H) (X : Stand p l e R s m args below meth c T locs k n) : H.size = G.1 + S.length := by
  have h1 := X.heapSize
  rw [hT] at h1
  have h2 : G.1 + S.length ≤ H.size := by
    by_cases h0 : S.length = 0
    · have := hS.1; omega
    · have h3 : S.length - 1 < S.length := by omega
      have h4 : (tk_ws G S M)[S.length - 1]? = some (G.1 + (S.length - 1), tk_ent G S[S.length - 1] (M ((S.length - 1 : Nat) : Int))) := by
        unfold tk_ws
        rw [List.getElem?_mapIdx, List.getElem?_eq_getElem h3]; rfl
      have h5 := (hW.1 _ _ h4).lt
      have h6 : G.1 + (S.length - 1) < H.size := h5
      omega
  omega
theorem tk_K.moved {u U : State} {H : Heap} (hW : u.WarmedH U.vm) (h : tk_K G u H) : tk_K G U H := by
  obtain ⟨h1, h2, h3, h4, h5, h6⟩ := h
  exact ⟨h1.moved hW.alike, fun j hj => ⟨(h2 j hj).1.moved hW.alike, (h2 j hj).2⟩, h3.moved hW.alike, h4.moved hW.alike, va_Nw.warmM hW h5, h6⟩
theorem tk_K.kept {U : State} {H H1 : Heap} (h : tk_K G U H) (hz : H.size ≤ H1.size) (hq : ∀ a : Nat, a < H.size → ¬ tk_A G a → H1[a]? = H[a]?) : tk_K G U H1 := by
  obtain ⟨h1, h2, h3, h4, h5, h6⟩ := h
  exact ⟨h1, fun j hj => ⟨(h2 j hj).1.kept hq, (h2 j hj).2⟩, h3.kept hq, h4.kept hq, h5, Nat.le_trans h6 hz⟩
theorem tk_K.calling {U : State} {H : Heap} (g : JFrame) (mk : MethodId) (a : Array Value) (h : tk_K G U H) : tk_K G (U.calling g mk a) H := by
  obtain ⟨h1, h2, h3, h4, h5, h6⟩ := h
  have hv : U.vm.Alike (U.calling g mk a).vm := Vm.Alike.refl U.vm
  exact ⟨h1.moved hv, fun j hj => ⟨(h2 j hj).1.moved hv, (h2 j hj).2⟩, h3.moved hv, h4.moved hv, va_Nw.same rfl rfl h5, h6⟩
def tk_rv (G : tk_G) (v : tk_V) : Option Value := if v.1 < 4 then some (tk_e G v) else none
def tk_rvo (r : Option FieldType) (v : tk_V) : Prop := match r with
  | none => v = xU
  | some .int => v.1 = 0
  | some .boolean => v.1 = 0 ∧ (v.2 = 0 ∨ v.2 = 1)
  | some .long => v.1 = 1
  | some (.object _) => v.1 = 2 ∧ 0 ≤ v.2
  | _ => False
def tk_Pc (G : tk_G) (args : List tk_V) (S : tk_S) (M : tk_M) : Array Value → State → Prop := fun a U => a = (args.map (tk_e G)).toArray ∧ (∀ v ∈ args, tk_ok v) ∧ tk_W G S M U.heap ∧ U.heap.size = G.1 + S.length ∧ tk_K G U U.heap
def tk_Qc (G : tk_G) (f : tk_F) (S : tk_S) (Q : tk_V → tk_S → tk_M → Prop) : Array Value → State → Outcome → State → Prop := fun _ st o t => ∃ (v : tk_V) (S' : tk_S) (M' : tk_M), o = .returned (tk_rv G v) ∧ Q v S' M' ∧ tk_W G S' M' t.heap ∧ S'.length = S.length + f.2.2.2.2.2.1 ∧ tk_ok v ∧ tk_rvo f.2.2.2.1 v ∧ va_F (tk_A G) st t
/-- a method's contract -/
def Sp (G : tk_G) (f : tk_F) (args : List tk_V) (S : tk_S) (M : tk_M) (Q : tk_V → tk_S → tk_M → Prop) : Prop :=
  ∀ l : Launch, Met l f.1 (Cond.code f.1 f.2.1 f.2.2.1 f.2.2.2.1 :: tk_tb) (tk_rm f) (tk_Pc G args S M) (tk_Qc G f S Q) f.2.2.2.2.2.1 f.2.2.2.2.2.2 (tk_A G)
def tk_x : List tk_V → List tk_V
  | [] => []
  | v :: t => if v.1 = 1 then v :: xU :: tk_x t else v :: tk_x t
def tk_en (args : List tk_V) (n : Nat) : List tk_V := tk_x args ++ List.replicate (n - (tk_x args).length) xU
theorem tk_x_args (vs : List tk_V) : ∀ (i j : Nat) (v : tk_V), (tk_x vs)[j]? = some v → v.1 < 4 → (i + j, tk_e G v) ∈ lv_args i (vs.map (tk_e G)) := by
  induction vs with
  | nil => intro i j v h; simp [tk_x] at h
  | cons a t ih =>
    intro i j v h hv
    show (i + j, tk_e G v) ∈ lv_args i (tk_e G a :: t.map (tk_e G))
    unfold tk_x at h
    by_cases ha : a.1 = 1
    · rw [if_pos ha] at h
      have hc : (tk_e G a).category = 2 := (tk_cat G).mpr ha
      match j, h with
      | 0, h => cases h; exact List.mem_cons_self
      | 1, h => cases h; exact absurd hv (by decide)
      | j + 2, h =>
        have := ih (i + 2) j v h hv
        rw [show i + (j + 2) = i + 2 + j by omega]
        unfold lv_args
        rw [hc]
        exact List.mem_cons_of_mem _ this
    · rw [if_neg ha] at h
      have hc : (tk_e G a).category = 1 := (lv_cat _).resolve_right (fun h2 => ha ((tk_cat G).mp h2))
      match j, h with
      | 0, h => cases h; exact List.mem_cons_self
      | j + 1, h =>
        have := ih (i + 1) j v h hv
        rw [show i + (j + 1) = i + 1 + j by omega]
        unfold lv_args
        rw [hc]
        exact List.mem_cons_of_mem _ this
theorem tk_x_len (vs : List tk_V) : (lg_sl (vs.map (tk_e G))).length = (tk_x vs).length := by
  induction vs with
  | nil => rfl
  | cons a t ih =>
    unfold tk_x
    by_cases ha : a.1 = 1
    · rw [if_pos ha]
      have hc : (tk_e G a).category = 2 := (tk_cat G).mpr ha
      have e0 : lg_sl ((a :: t).map (tk_e G)) = (if (tk_e G a).category = 2 then [Slot.val (tk_e G a), Slot.second] else [Slot.val (tk_e G a)]) ++ lg_sl (t.map (tk_e G)) := by simp [lg_sl]
      rw [e0, List.length_append, ih]
      simp [hc]; omega
    · rw [if_neg ha]
      have hc : (tk_e G a).category = 1 := (lv_cat _).resolve_right (fun h2 => ha ((tk_cat G).mp h2))
      have e0 : lg_sl ((a :: t).map (tk_e G)) = (if (tk_e G a).category = 2 then [Slot.val (tk_e G a), Slot.second] else [Slot.val (tk_e G a)]) ++ lg_sl (t.map (tk_e G)) := by simp [lg_sl]
      rw [e0, List.length_append, ih]
      simp [hc]; omega
theorem tk_x_ok {vs : List tk_V} (h : ∀ v ∈ vs, tk_ok v) : ∀ v ∈ tk_x vs, tk_ok v := by
  induction vs with
  | nil => intro v hv; cases hv
  | cons a t ih =>
    intro v hv
    unfold tk_x at hv
    have h1 := ih (fun w hw => h w (List.mem_cons_of_mem _ hw)) v
    by_cases ha : a.1 = 1
    · rw [if_pos ha] at hv
      rcases List.mem_cons.mp hv with h2 | hv
      · rw [h2]; exact h a List.mem_cons_self
      · rcases List.mem_cons.mp hv with h2 | hv
        · rw [h2]; exact tk_ok_U
        · exact h1 hv
    · rw [if_neg ha] at hv
      rcases List.mem_cons.mp hv with h2 | hv
      · rw [h2]; exact h a List.mem_cons_self
      · exact h1 hv
theorem Sp.of {args : List tk_V} (hpl : plainName f.1.cls = true) (hlen : (tk_x args).length ≤ f.2.2.1) (hQ : ∀ v S' M', Q v S' M' → S'.length = S.length + f.2.2.2.2.2.1) (hok : Ok G f 0 (tk_en args f.2.2.1) [] S M 0 0 Q) : Sp G f args S M Q := by
  intro l
  refine Met.ofW (cc := f.2.1) (maxL := f.2.2.1) (ret := f.2.2.2.1) hpl rfl ?_
  intro p e s m av below meth c s₁ B hml hv
  obtain ⟨rfl, hargs, hW, hz, hK⟩ := hv
  have hts := atoms_spec (ws := Cond.code f.1 f.2.1 f.2.2.1 f.2.2.2.1 :: tk_tb) B.pre
  have hown : s.vm.findClass f.1.cls = some m.cls := findClass_of_methodNamed B.named
  have hlocks := B.notSynchronized
  have hr := B.returns
  have hnm : meth.name = f.1.name := (name_of_methodNamed B.named B.method).1
  have hle : (lg_sl (args.map (tk_e G))).length ≤ f.2.2.1 := by rw [tk_x_len]; exact hlen
  have hl := lv_entry (args.map (tk_e G)) (n := f.2.2.1) hle
  rw [lg_entry_eq]
  generalize (lg_sl (args.map (tk_e G)) ++ List.replicate (f.2.2.1 - (lg_sl (args.map (tk_e G))).length) Slot.unset).toArray = la at hl ⊢
  have hlen2 : (tk_en args f.2.2.1).length = f.2.2.1 := by unfold tk_en; rw [List.length_append, List.length_replicate]; omega
  have F : tk_Fx G f p s m (args.map (tk_e G)).toArray meth c := ⟨B.exec, B.bytes, hml, hown, fun w hw => hts w (List.mem_cons_of_mem _ hw), hK, hnm⟩
  refine hok p l e s m (args.map (tk_e G)).toArray below meth c s.heap [] la _ F hW va_S.rf ?_ ⟨hlen2, hz⟩ ?_ (fun v hv => by cases hv) ?_
  · rw [hlen2]
    refine ⟨hl.1, hl.2.1, fun q hq => hl.2.2 q ?_⟩
    obtain ⟨v, h1, h2, h3⟩ := tk_l_of hq
    obtain ⟨j, z⟩ := q
    dsimp only at h1 h3
    subst h3
    unfold tk_en at h1
    by_cases hj : j < (tk_x args).length
    · rw [List.getElem?_append_left hj] at h1
      have := tk_x_args (G := G) args 0 j v h1 h2
      rwa [Nat.zero_add] at this
    · rw [List.getElem?_append_right (by omega)] at h1
      have := List.mem_of_getElem? h1
      rw [List.eq_of_mem_replicate this] at h2
      exact absurd h2 (by decide)
  · intro v hv
    rcases List.mem_append.mp hv with hv | hv
    · exact tk_x_ok hargs v hv
    · rw [List.eq_of_mem_replicate hv]; exact tk_ok_U
  · intro v S' M' H' locs' k' n' pc' la' hq hW' hS' hk' hn' hov hro
    have hk : k' = f.2.2.2.2.2.1 := by have := hQ v S' M' hq; omega
    refine W.widen (k := f.2.2.2.2.2.1) (n := f.2.2.2.2.2.2) hk'.1 hn' ?_
    have hf : ∀ q ∈ locs', tk_A G q.base := fun q hq => hS'.2.2 q hq
    have hQc : tk_rvo f.2.2.2.1 v → ∀ t : State, t.heap = H' → s.WarmedH t.vm → tk_Qc G f S Q (args.map (tk_e G)).toArray s (.returned (tk_rv G v)) t := fun h3 t ht _ => ⟨v, S', M', rfl, hq, by rw [ht]; exact hW', hQ v S' M' hq, hov, h3, hS'.F ht⟩
    obtain ⟨tg, x⟩ := v
    unfold tk_rok at hro
    cases hrt : f.2.2.2.1 with
    | none =>
      rw [hrt] at hro hr
      obtain ⟨h1, h2⟩ := hro
      cases h1
      exact W.vret B.exec B.bytes hr (hQc (by rw [hrt]; rfl)) hf h2
    | some ty =>
      rw [hrt] at hro hr
      cases ty with
      | int =>
        obtain ⟨h1, h2⟩ := hro
        cases h1
        exact W.iret B.exec B.bytes hr (hQc (by rw [hrt]; rfl)) hf h2
      | boolean =>
        obtain ⟨h1, h3, h2⟩ := hro
        cases h1
        have h4 : narrow .boolean (.int (Int32.ofInt x)) = .int (Int32.ofInt x) := by
          rcases h3 with h3 | h3 <;> (dsimp only at h3; subst h3; decide)
        exact W.zret B.exec B.bytes hr h4 (hQc (by rw [hrt]; exact ⟨rfl, h3⟩)) hf h2
      | long =>
        obtain ⟨h1, h2⟩ := hro
        cases h1
        exact W.lret B.exec B.bytes hr (hQc (by rw [hrt]; rfl)) hf h2
      | object C =>
        obtain ⟨h1, h3, h2⟩ := hro
        cases h1
        have h5 : tk_e G ((2 : Nat), x) = .ref (G.1 + x.toNat) := tk_eR h3
        have h6 := hQc (by rw [hrt]; exact ⟨rfl, h3⟩)
        refine W.aret (v := tk_e G (2, x)) B.exec B.bytes hr (Or.inl ⟨C, rfl⟩) (Or.inr ⟨_, h5⟩) h6 hf h2
      | _ => exact hro.elim
theorem tk_good : GoodIn tk_tb tk_tb := fun w h => ⟨h, good_of_word (List.mem_filter.mp h).2⟩
def tk_cw : List tk_V → Nat
  | [] => 0
  | v :: t => (if v.1 = 1 then 2 else 1) + tk_cw t
theorem tk_cw_eq (st : List tk_V) : ((st.map (tk_e G)).map fun v => v.category).sum = tk_cw st := by
  induction st with
  | nil => rfl
  | cons a t ih =>
    unfold tk_cw
    rw [List.map_cons, List.map_cons, List.sum_cons, ih]
    by_cases ha : a.1 = 1
    · rw [if_pos ha, (tk_cat G).mpr ha]
    · rw [if_neg ha, (lv_cat _).resolve_right (fun h2 => ha ((tk_cat G).mp h2))]
/-- a method as the tables have it -/
def tk_mt (g : tk_F) (na : Nat) : Prop := Cond.code g.1 g.2.1 g.2.2.1 g.2.2.2.1 ∈ tk_tb ∧ Cond.initialized g.1.cls ∈ tk_tb ∧ g.1.cls ≠ "java/lang/invoke/MethodHandle" ∧ g.1.cls ≠ "java/lang/invoke/VarHandle" ∧ (parseMethodDescriptor g.1.desc).map (fun d => d.parameters.length) = some na ∧ plainName g.1.cls = true
theorem tk_callB {g : tk_F} {na : Nat} {own : String} {idx : Nat} {s : State} {args : Array Value} (ht : ∀ w ∈ tk_tb, w.before args s = true) (hm : tk_mt g na) (hl : Cond.methodLink own idx g.1 ∈ tk_tb) (hdep : g.2.2.2.2.1 < f.2.2.2.2.1 ∧ g.2.2.1 ≤ 21) : CallB (tk_rm f) s args own idx g.1 g.2.1 g.2.2.1 g.2.2.2.1 (Cond.code g.1 g.2.1 g.2.2.1 g.2.2.2.1 :: tk_tb) (tk_rm g) g.2.2.2.2.2.1 g.2.2.2.2.2.2 na := by
  obtain ⟨h1, h2, h3, h4, h5, -⟩ := hm
  refine ⟨rfl, rfl, hdep.1, ?_, fun w hw a' U hW => ?_, List.mem_cons_self, ht _ h1, ht _ h2, ⟨h3, h4⟩, fun sig hsig => ?_, ht _ hl⟩
  · show 8 + (g.2.2.1 + 11) + 40 * g.2.2.2.2.1 ≤ 40 * f.2.2.2.2.1
    omega
  · have hw2 : w ∈ tk_tb := by
      rcases List.mem_cons.mp hw with h | h
      · rw [h]; exact h1
      · exact h
    exact word_at hW (tk_good w hw2).2 (ht w hw2)
  · rw [hsig] at h5; exact (Option.some.inj h5).symm
theorem tk_blind (args : List tk_V) : FrameBlind (tk_Pc G args S M) := fun a U g mk h => ⟨h.1, h.2.1, h.2.2.1, h.2.2.2.1, h.2.2.2.2.calling g mk a⟩
/-- behind a call -/
theorem tk_after {p : Program} {l : Launch} {e : Env} {s : State} {m : MethodId} {args : Array Value} {below : List Frame} {meth : Method} {c : Code} {H : Heap} {locs : List Loc} {la : Array Slot} {Z : State → Prop} {g : tk_F} {Q' : tk_V → tk_S → tk_M → Prop} {av : Array Value} {st0 : List Value} {T : State}
    (hr : va_Run p l e (tk_rm f) s m args below meth c H locs k n g.2.2.2.2.2.1 g.2.2.2.2.2.2 (F0 m pc la st0) (st.map (tk_e G)) (tk_Qc G g S Q' av) (tk_A G)) (hT : T.heap = H) (X : Stand p l e (tk_rm f) s m args below meth c T locs k n)
    (F : tk_Fx G f p s m args meth c) (hS : va_S (tk_A G) s.heap H locs) (hl : lv_has la ls.length (tk_l G ls)) (hn : ls.length = f.2.2.1 ∧ s.heap.size + k = G.1 + S.length) (hls : ∀ v ∈ ls, tk_ok v) (hst : ∀ v ∈ st, tk_ok v)
    (hR : ∀ (v : tk_V) (S' : tk_S) (M' : tk_M) (H' : Heap) (locs' : List Loc) (k' n' pc' : Nat) (la' : Array Slot), Q v S' M' → tk_W G S' M' H' → va_S (tk_A G) s.heap H' locs' → (k' ≤ f.2.2.2.2.2.1 ∧ s.heap.size + k' = G.1 + S'.length) → n' ≤ f.2.2.2.2.2.2 → tk_ok v → tk_rok f v pc' → W p l e (tk_rm f) s m args below meth c H' locs' k' n' Z (F0 m pc' la' (tk_rst G v)))
    (kk : ∀ (v : tk_V) (S' : tk_S) (M' : tk_M), Q' v S' M' → tk_rvo g.2.2.2.1 v → tk_ok v → S'.length = S.length + g.2.2.2.2.2.1 → Ok G f (pc + 3) ls (if v.1 < 4 then v :: st else st) S' M' (k + g.2.2.2.2.2.1) (n + g.2.2.2.2.2.2) Q) :
    ∃ t, Steps p.tables e below (T.setTop (F0 m pc la st0)) t ∧ Z t := by
  obtain ⟨v, st₀, t, T', L, h0, X', hL, e1, e2, hq, hgo⟩ := hr T hT X
  obtain ⟨v', S', M', q1, q2, q3, q4, q5, q6, q7⟩ := hq
  cases q1
  have hS2 : va_S (tk_A G) s.heap T'.heap (locs ++ L) := by
    refine ⟨Nat.le_trans hS.1 ?_, fun q h1 h2 => ?_, fun q hq => ?_⟩
    · rw [e1, ← h0]; exact q7.1
    · have h3 : q < st₀.heap.size := by rw [h0]; exact Nat.lt_of_lt_of_le h1 hS.1
      rw [e1, q7.2 q h3 h2, h0]; exact hS.2.1 q h1 h2
    · rcases List.mem_append.mp hq with h | h
      · exact hS.2.2 q h
      · exact hL q h
  have hst2 : ∀ w ∈ (if v'.1 < 4 then v' :: st else st), tk_ok w := by
    by_cases hv : v'.1 < 4
    · rw [if_pos hv]; exact tk_okc q5 hst
    · rw [if_neg hv]; exact hst
  obtain ⟨t2, a1, b1⟩ := kk v' S' M' q2 q6 q5 q4 p l e s m args below meth c T'.heap (locs ++ L) la Z F (by rw [e1]; exact q3) hS2 hl ⟨hn.1, by rw [q4]; have := hn.2; omega⟩ hls hst2 hR T' rfl X'
  refine ⟨t2, hgo t2 ?_, b1⟩
  have e3 : (tk_rv G v').toList ++ st.map (tk_e G) = (if v'.1 < 4 then v' :: st else st).map (tk_e G) := by
    unfold tk_rv
    by_cases hv : v'.1 < 4
    · rw [if_pos hv, if_pos hv]; rfl
    · rw [if_neg hv, if_neg hv]; rfl
  rw [← e3] at a1
  exact a1
end TkCall
end
section
section TkRows3
variable {G : tk_G} {f : tk_F} {pc : Nat} {ls st : List tk_V} {S : tk_S} {M : tk_M} {k n : Nat} {Q : tk_V → tk_S → tk_M → Prop}
/-- a link to an instance method, to a static one -/
def tk_lv (own : String) (idx : Nat) (g : tk_F) : Prop := Cond.methodLink own idx g.1 ∈ tk_tb ∧ Cond.instanceMethod g.1 ∈ tk_tb ∧ Cond.selects g.1.cls g.1 g.1 ∈ tk_tb
def tk_ls (own : String) (idx : Nat) (g : tk_F) : Prop := Cond.methodLink own idx g.1 ∈ tk_tb ∧ Cond.static g.1 ∈ tk_tb
theorem tk_callV {g : tk_F} {own : String} {idx na kd N : Nat} {args : List tk_V} {c : Int} {rl : List Int} {Q' : tk_V → tk_S → tk_M → Prop} (hd : decode f.2.1 pc = .ok (.invokevirtual idx, 3)) (hm : tk_mt g na) (hl : tk_lv own idx g) (ho : f.1.cls = own) (hs : tk_sg S c = some (kd, N, rl)) (hkd : vwCl[kd]? = some (g.1.cls, TX_of kd, N) ∧ kd < 20) (hdep : g.2.2.2.2.1 < f.2.2.2.2.1 ∧ g.2.2.1 ≤ 21) (hna : args.length = na) (hcw : tk_cw st ≤ 8) (hcs : k + g.2.2.2.2.2.1 ≤ f.2.2.2.2.2.1 ∧ n + g.2.2.2.2.2.2 ≤ f.2.2.2.2.2.2)
    (hsp : Sp G g (xR c :: args) S M Q') (kk : ∀ (v : tk_V) (S' : tk_S) (M' : tk_M), Q' v S' M' → tk_rvo g.2.2.2.1 v → tk_ok v → S'.length = S.length + g.2.2.2.2.2.1 → Ok G f (pc + 3) ls (if v.1 < 4 then v :: st else st) S' M' (k + g.2.2.2.2.2.1) (n + g.2.2.2.2.2.2) Q) : Ok G f pc ls (args.reverse ++ xR c :: st) S M k n Q := by
  intro p l e s m av below meth c0 H locs la Z F hW hS hle hn hls hst hR
  intro T hT X
  obtain ⟨g0, g1⟩ := tk_sg_at hs
  have hz := tk_size hW hS hn.2 F.2.2.2.2.2.1.2.2.2.2.2 hT X
  have hsa : ∀ v ∈ args, tk_ok v := fun v hv => hst v (List.mem_append_left _ (List.mem_reverse.mpr hv))
  have hss : ∀ v ∈ st, tk_ok v := fun v hv => hst v (List.mem_append_right _ (List.mem_cons_of_mem _ hv))
  have he := tk_ws_at (G := G) (M := M) hs
  rw [tk_ent_o hkd.2] at he
  have hrec := va_recv F.2.2.2.2.2.1.1 hW.1 hkd.1 he
  refine tk_after (g := g) (Q' := Q') (T := T) (av := (Value.ref (G.1 + c.toNat) :: args.map (tk_e G)).toArray) ?_ hT X F hS hle hn hls hss hR kk
  refine va_runV (As := args.map (tk_e G)) (b := G.1 + c.toNat) (C := g.1.cls) ⟨F.1, F.2.1, rfl, F.2.2.2.1, F.2.2.2.2.1⟩ (hsp l) ⟨tk_callB F.2.2.2.2.1 hm (by rw [ho]; exact hl.1) hdep, F.2.2.2.2.1 _ hl.2.1, F.2.2.2.2.1 _ hl.2.2⟩ ⟨tk_blind _, hrec, fun U hU hWm => ⟨?_, tk_okc (tk_ok_R c) hsa, by rw [hU]; exact hW, by rw [hU]; exact hz, ?_⟩⟩ rfl (by rw [List.length_map]; exact hna) (hle.1.trans (hn.1.trans F.2.2.1.symm)) ?_ ?_ hd hcs
  · rw [List.map_cons, tk_eR g0]
  · rw [hU]
    exact (F.2.2.2.2.2.1.moved hWm).kept hS.1 (fun a h1 h2 => hS.2.1 a h1 h2)
  · show (args.reverse ++ xR c :: st).map (tk_e G) = _
    rw [List.map_append, List.map_reverse, List.map_cons, tk_eR g0]
  · refine lv_room ?_
    rw [tk_cw_eq]; exact hcw
theorem tk_callS {g : tk_F} {own : String} {idx na : Nat} {args : List tk_V} {Q' : tk_V → tk_S → tk_M → Prop} (hd : decode f.2.1 pc = .ok (.invokestatic idx, 3)) (hm : tk_mt g na) (hl : tk_ls own idx g) (ho : f.1.cls = own) (hdep : g.2.2.2.2.1 < f.2.2.2.2.1 ∧ g.2.2.1 ≤ 21) (hna : args.length = na) (hcw : tk_cw st ≤ 8) (hcs : k + g.2.2.2.2.2.1 ≤ f.2.2.2.2.2.1 ∧ n + g.2.2.2.2.2.2 ≤ f.2.2.2.2.2.2)
    (hsp : Sp G g args S M Q') (kk : ∀ (v : tk_V) (S' : tk_S) (M' : tk_M), Q' v S' M' → tk_rvo g.2.2.2.1 v → tk_ok v → S'.length = S.length + g.2.2.2.2.2.1 → Ok G f (pc + 3) ls (if v.1 < 4 then v :: st else st) S' M' (k + g.2.2.2.2.2.1) (n + g.2.2.2.2.2.2) Q) : Ok G f pc ls (args.reverse ++ st) S M k n Q := by
  intro p l e s m av below meth c0 H locs la Z F hW hS hle hn hls hst hR
  intro T hT X
  have hz := tk_size hW hS hn.2 F.2.2.2.2.2.1.2.2.2.2.2 hT X
  have hsa : ∀ v ∈ args, tk_ok v := fun v hv => hst v (List.mem_append_left _ (List.mem_reverse.mpr hv))
  have hss : ∀ v ∈ st, tk_ok v := fun v hv => hst v (List.mem_append_right _ hv)
  refine tk_after (g := g) (Q' := Q') (T := T) (av := (args.map (tk_e G)).toArray) ?_ hT X F hS hle hn hls hss hR kk
  refine va_runS (As := args.map (tk_e G)) ⟨F.1, F.2.1, rfl, F.2.2.2.1, F.2.2.2.2.1⟩ (hsp l) ⟨tk_callB F.2.2.2.2.1 hm (by rw [ho]; exact hl.1) hdep, F.2.2.2.2.1 _ hl.2⟩ ⟨tk_blind _, fun U hU hWm => ⟨rfl, hsa, by rw [hU]; exact hW, by rw [hU]; exact hz, ?_⟩⟩ rfl (by rw [List.length_map]; exact hna) (hle.1.trans (hn.1.trans F.2.2.1.symm)) ?_ ?_ hd hcs
  · rw [hU]
    exact (F.2.2.2.2.2.1.moved hWm).kept hS.1 (fun a h1 h2 => hS.2.1 a h1 h2)
  · show (args.reverse ++ st).map (tk_e G) = _
    rw [List.map_append, List.map_reverse]
  · refine lv_room ?_
    rw [tk_cw_eq]; exact hcw
theorem tk_callI {g : tk_F} {own : String} {idx na : Nat} {args : List tk_V} {c : Int} {Q' : tk_V → tk_S → tk_M → Prop} (hd : decode f.2.1 pc = .ok (.invokespecial idx, 3)) (hm : tk_mt g na) (hl : Cond.methodLink own idx g.1 ∈ tk_tb ∧ Cond.instanceMethod g.1 ∈ tk_tb) (ho : f.1.cls = own) (hin : g.1.name = "<init>" ∧ g.2.2.2.1 = none) (h0 : 0 ≤ c) (hdep : g.2.2.2.2.1 < f.2.2.2.2.1 ∧ g.2.2.1 ≤ 21) (hna : args.length = na) (hcw : tk_cw st ≤ 8) (hcs : k + g.2.2.2.2.2.1 ≤ f.2.2.2.2.2.1 ∧ n + g.2.2.2.2.2.2 ≤ f.2.2.2.2.2.2)
    (hsp : Sp G g (xR c :: args) S M Q') (kk : ∀ (v : tk_V) (S' : tk_S) (M' : tk_M), Q' v S' M' → tk_rvo g.2.2.2.1 v → tk_ok v → S'.length = S.length + g.2.2.2.2.2.1 → Ok G f (pc + 3) ls (if v.1 < 4 then v :: st else st) S' M' (k + g.2.2.2.2.2.1) (n + g.2.2.2.2.2.2) Q) : Ok G f pc ls (args.reverse ++ xR c :: st) S M k n Q := by
  intro p l e s m av below meth c0 H locs la Z F hW hS hle hn hls hst hR
  intro T hT X
  have hz := tk_size hW hS hn.2 F.2.2.2.2.2.1.2.2.2.2.2 hT X
  have hsa : ∀ v ∈ args, tk_ok v := fun v hv => hst v (List.mem_append_left _ (List.mem_reverse.mpr hv))
  have hss : ∀ v ∈ st, tk_ok v := fun v hv => hst v (List.mem_append_right _ (List.mem_cons_of_mem _ hv))
  refine tk_after (g := g) (Q' := Q') (T := T) (av := (Value.ref (G.1 + c.toNat) :: args.map (tk_e G)).toArray) ?_ hT X F hS hle hn hls hss hR kk
  have hcb := tk_callB (s := s) F.2.2.2.2.1 hm (own := f.1.cls) (idx := idx) (by rw [ho]; exact hl.1) hdep
  have hM := hsp l
  rw [hin.2] at hcb hM
  refine va_runI (As := args.map (tk_e G)) (b := G.1 + c.toNat) ⟨F.1, F.2.1, rfl, F.2.2.2.1, F.2.2.2.2.1⟩ hM ⟨hcb, hin.1, F.2.2.2.2.1 _ hl.2⟩ ⟨tk_blind _, fun U hU hWm => ⟨?_, tk_okc (tk_ok_R c) hsa, by rw [hU]; exact hW, by rw [hU]; exact hz, ?_⟩⟩ rfl (by rw [List.length_map]; exact hna) (hle.1.trans (hn.1.trans F.2.2.1.symm)) ?_ ?_ hd hcs
  · rw [List.map_cons, tk_eR h0]
  · rw [hU]
    exact (F.2.2.2.2.2.1.moved hWm).kept hS.1 (fun a h1 h2 => hS.2.1 a h1 h2)
  · show (args.reverse ++ xR c :: st).map (tk_e G) = _
    rw [List.map_append, List.map_reverse, List.map_cons, tk_eR h0]
  · refine lv_room ?_
    rw [tk_cw_eq]; exact hcw
/-- what a range says of a value that lies in the locals, on the stack, in a row -/
theorem tr_rng {j : Nat} {x : Int} (h : ls[j]? = some (xI x)) (kk : tk_r32 x → Ok G f pc ls st S M k n Q) : Ok G f pc ls st S M k n Q := by
  intro p l e s m av below meth c0 H locs la Z F hW hS hle hn hls hst hR
  exact kk (tk_ok_I.mp (hls _ (List.mem_of_getElem? h))) p l e s m av below meth c0 H locs la Z F hW hS hle hn hls hst hR
theorem tr_rngL {j : Nat} {x : Int} (h : ls[j]? = some (xL x)) (kk : tk_r64 x → Ok G f pc ls st S M k n Q) : Ok G f pc ls st S M k n Q := by
  intro p l e s m av below meth c0 H locs la Z F hW hS hle hn hls hst hR
  exact kk (tk_ok_L.mp (hls _ (List.mem_of_getElem? h))) p l e s m av below meth c0 H locs la Z F hW hS hle hn hls hst hR
theorem tr_rngM {c i : Int} {q : tk_C} (hs : tk_sg S c = some q) (h1 : 0 ≤ i) (h2 : i < q.2.1) (kk : tk_rng q.1 (M c i) → Ok G f pc ls st S M k n Q) : Ok G f pc ls st S M k n Q := by
  intro p l e s m av below meth c0 H locs la Z F hW hS hle hn hls hst hR
  exact kk (tk_mok_at hW.2 hs h1 h2) p l e s m av below meth c0 H locs la Z F hW hS hle hn hls hst hR
/-- the ends -/
theorem tr_ret {v : tk_V} (hv : tk_rok f v pc) (hvo : tk_ok v) (hk : k ≤ f.2.2.2.2.2.1) (hn : n ≤ f.2.2.2.2.2.2) (hq : Q v S M) (hst : st = if v.1 < 4 then [v] else []) : Ok G f pc ls st S M k n Q := by
  intro p l e s m av below meth c0 H locs la Z F hW hS hle hnn hls hst2 hR
  have h := hR v S M H locs k n pc la hq hW hS ⟨hk, hnn.2⟩ hn hvo hv
  have e1 : tk_rst G v = st.map (tk_e G) := by
    rw [hst]; unfold tk_rst
    by_cases h4 : v.1 < 4
    · rw [if_pos h4, if_pos h4]; rfl
    · rw [if_neg h4, if_neg h4]; rfl
  rw [e1] at h
  exact h
theorem tk_okst {v : tk_V} (kk : tk_ok v → Ok G f pc ls (v :: st) S M k n Q) : Ok G f pc ls (v :: st) S M k n Q := by
  intro p l e s m av below meth c0 H locs la Z F hW hS hle hn hls hst hR
  exact kk (hst _ List.mem_cons_self) p l e s m av below meth c0 H locs la Z F hW hS hle hn hls hst hR
end TkRows3
end
section
section TkRows4
variable {G : tk_G} {f : tk_F} {pc : Nat} {ls st : List tk_V} {S : tk_S} {M : tk_M} {k n : Nat} {Q : tk_V → tk_S → tk_M → Prop}
/-- the ends of a method that makes nothing -/
def tk_qi (S : tk_S) (P : Int → tk_M → Prop) : tk_V → tk_S → tk_M → Prop := fun v S' M' => S' = S ∧ ∃ r : Int, v = xI r ∧ P r M'
def tk_ql (S : tk_S) (P : Int → tk_M → Prop) : tk_V → tk_S → tk_M → Prop := fun v S' M' => S' = S ∧ ∃ r : Int, v = xL r ∧ P r M'
def tk_qr (S : tk_S) (P : Int → tk_M → Prop) : tk_V → tk_S → tk_M → Prop := fun v S' M' => S' = S ∧ ∃ r : Int, v = xR r ∧ P r M'
def tk_qv (S : tk_S) (P : tk_M → Prop) : tk_V → tk_S → tk_M → Prop := fun v S' M' => S' = S ∧ v = xU ∧ P M'
def Spi (G : tk_G) (f : tk_F) (args : List tk_V) (S : tk_S) (M : tk_M) (P : Int → tk_M → Prop) : Prop := Sp G f args S M (tk_qi S P)
def Spl (G : tk_G) (f : tk_F) (args : List tk_V) (S : tk_S) (M : tk_M) (P : Int → tk_M → Prop) : Prop := Sp G f args S M (tk_ql S P)
def Spr (G : tk_G) (f : tk_F) (args : List tk_V) (S : tk_S) (M : tk_M) (P : Int → tk_M → Prop) : Prop := Sp G f args S M (tk_qr S P)
def Spv (G : tk_G) (f : tk_F) (args : List tk_V) (S : tk_S) (M : tk_M) (P : tk_M → Prop) : Prop := Sp G f args S M (tk_qv S P)
/-- a method that makes nothing: no cells, no slots -/
def tk_nil (f : tk_F) : Prop := f.2.2.2.2.2.1 = 0 ∧ f.2.2.2.2.2.2 = 0
theorem Spi.of {args : List tk_V} {P : Int → tk_M → Prop} (na : Nat) (hm : tk_mt f na) (h0 : tk_nil f) (hlen : (tk_x args).length ≤ f.2.2.1) (hok : Ok G f 0 (tk_en args f.2.2.1) [] S M 0 0 (tk_qi S P)) : Spi G f args S M P := Sp.of hm.2.2.2.2.2 hlen (fun v S' M' h => by rw [h.1, h0.1]; rfl) hok
theorem Spl.of {args : List tk_V} {P : Int → tk_M → Prop} (na : Nat) (hm : tk_mt f na) (h0 : tk_nil f) (hlen : (tk_x args).length ≤ f.2.2.1) (hok : Ok G f 0 (tk_en args f.2.2.1) [] S M 0 0 (tk_ql S P)) : Spl G f args S M P := Sp.of hm.2.2.2.2.2 hlen (fun v S' M' h => by rw [h.1, h0.1]; rfl) hok
theorem Spr.of {args : List tk_V} {P : Int → tk_M → Prop} (na : Nat) (hm : tk_mt f na) (h0 : tk_nil f) (hlen : (tk_x args).length ≤ f.2.2.1) (hok : Ok G f 0 (tk_en args f.2.2.1) [] S M 0 0 (tk_qr S P)) : Spr G f args S M P := Sp.of hm.2.2.2.2.2 hlen (fun v S' M' h => by rw [h.1, h0.1]; rfl) hok
theorem Spv.of {args : List tk_V} {P : tk_M → Prop} (na : Nat) (hm : tk_mt f na) (h0 : tk_nil f) (hlen : (tk_x args).length ≤ f.2.2.1) (hok : Ok G f 0 (tk_en args f.2.2.1) [] S M 0 0 (tk_qv S P)) : Spv G f args S M P := Sp.of hm.2.2.2.2.2 hlen (fun v S' M' h => by rw [h.1, h0.1]; rfl) hok
theorem tr_ireti {x : Int} {P : Int → tk_M → Prop} (hd : decode f.2.1 pc = .ok (.ireturn, 1)) (hr : f.2.2.2.1 = some .int) (hP : P x M) : Ok G f pc ls [xI x] S M 0 0 (tk_qi S P) := by
  refine tk_okst (fun hx => ?_)
  exact tr_ret (v := xI x) (by unfold tk_rok; rw [hr]; exact ⟨rfl, hd⟩) hx (Nat.zero_le _) (Nat.zero_le _) ⟨rfl, x, rfl, hP⟩ rfl
theorem tr_iretz {x : Int} {P : Int → tk_M → Prop} (hd : decode f.2.1 pc = .ok (.ireturn, 1)) (hr : f.2.2.2.1 = some .boolean) (h01 : x = 0 ∨ x = 1) (hP : P x M) : Ok G f pc ls [xI x] S M 0 0 (tk_qi S P) := by
  refine tk_okst (fun hx => ?_)
  exact tr_ret (v := xI x) (by unfold tk_rok; rw [hr]; exact ⟨rfl, h01, hd⟩) hx (Nat.zero_le _) (Nat.zero_le _) ⟨rfl, x, rfl, hP⟩ rfl
theorem tr_lret {x : Int} {P : Int → tk_M → Prop} (hd : decode f.2.1 pc = .ok (.lreturn, 1)) (hr : f.2.2.2.1 = some .long) (hP : P x M) : Ok G f pc ls [xL x] S M 0 0 (tk_ql S P) := by
  refine tk_okst (fun hx => ?_)
  exact tr_ret (v := xL x) (by unfold tk_rok; rw [hr]; exact ⟨rfl, hd⟩) hx (Nat.zero_le _) (Nat.zero_le _) ⟨rfl, x, rfl, hP⟩ rfl
theorem tr_aret {x : Int} {C : String} {P : Int → tk_M → Prop} (hd : decode f.2.1 pc = .ok (.areturn, 1)) (hr : f.2.2.2.1 = some (.object C)) (h0 : 0 ≤ x) (hP : P x M) : Ok G f pc ls [xR x] S M 0 0 (tk_qr S P) := by
  exact tr_ret (v := xR x) (by unfold tk_rok; rw [hr]; exact ⟨rfl, h0, hd⟩) (tk_ok_R x) (Nat.zero_le _) (Nat.zero_le _) ⟨rfl, x, rfl, hP⟩ rfl
theorem tr_vret {P : tk_M → Prop} (hd : decode f.2.1 pc = .ok (.return_, 1)) (hr : f.2.2.2.1 = none) (hP : P M) : Ok G f pc ls [] S M 0 0 (tk_qv S P) := by
  exact tr_ret (v := xU) (by unfold tk_rok; rw [hr]; exact ⟨rfl, hd⟩) tk_ok_U (Nat.zero_le _) (Nat.zero_le _) ⟨rfl, rfl, hP⟩ rfl
theorem tr_cVi0 {g : tk_F} {own : String} {idx kd N : Nat} {c : Int} {rl : List Int} {P : Int → tk_M → Prop} (hd : decode f.2.1 pc = .ok (.invokevirtual idx, 3)) (hm : tk_mt g 0) (hl : tk_lv own idx g) (ho : f.1.cls = own) (hs : tk_sg S c = some (kd, N, rl)) (hkd : vwCl[kd]? = some (g.1.cls, TX_of kd, N) ∧ kd < 20) (hdep : g.2.2.2.2.1 < f.2.2.2.2.1 ∧ g.2.2.1 ≤ 21) (h0 : tk_nil g) (hcw : tk_cw st ≤ 8) (hcs : k ≤ f.2.2.2.2.2.1 ∧ n ≤ f.2.2.2.2.2.2) (hsp : Spi G g [xR c] S M P) (kk : ∀ (r : Int) (M' : tk_M), P r M' → Ok G f (pc + 3) ls (xI r :: st) S M' k n Q) : Ok G f pc ls (xR c :: st) S M k n Q := by
  refine tk_callV (args := []) (Q' := tk_qi S P) hd hm hl ho hs hkd hdep rfl hcw (by rw [h0.1, h0.2]; exact hcs) hsp (fun v S' M' h _ _ _ => ?_)
  obtain ⟨rfl, r, rfl, hP⟩ := h
  rw [h0.1, h0.2]
  exact kk r M' hP
theorem tr_cVi1 {g : tk_F} {own : String} {idx kd N : Nat} {c : Int} {rl : List Int} {a1 : tk_V} {P : Int → tk_M → Prop} (hd : decode f.2.1 pc = .ok (.invokevirtual idx, 3)) (hm : tk_mt g 1) (hl : tk_lv own idx g) (ho : f.1.cls = own) (hs : tk_sg S c = some (kd, N, rl)) (hkd : vwCl[kd]? = some (g.1.cls, TX_of kd, N) ∧ kd < 20) (hdep : g.2.2.2.2.1 < f.2.2.2.2.1 ∧ g.2.2.1 ≤ 21) (h0 : tk_nil g) (hcw : tk_cw st ≤ 8) (hcs : k ≤ f.2.2.2.2.2.1 ∧ n ≤ f.2.2.2.2.2.2) (hsp : Spi G g [xR c, a1] S M P) (kk : ∀ (r : Int) (M' : tk_M), P r M' → Ok G f (pc + 3) ls (xI r :: st) S M' k n Q) : Ok G f pc ls (a1 :: xR c :: st) S M k n Q := by
  refine tk_callV (args := [a1]) (Q' := tk_qi S P) hd hm hl ho hs hkd hdep rfl hcw (by rw [h0.1, h0.2]; exact hcs) hsp (fun v S' M' h _ _ _ => ?_)
  obtain ⟨rfl, r, rfl, hP⟩ := h
  rw [h0.1, h0.2]
  exact kk r M' hP
theorem tr_cVi2 {g : tk_F} {own : String} {idx kd N : Nat} {c : Int} {rl : List Int} {a1 a2 : tk_V} {P : Int → tk_M → Prop} (hd : decode f.2.1 pc = .ok (.invokevirtual idx, 3)) (hm : tk_mt g 2) (hl : tk_lv own idx g) (ho : f.1.cls = own) (hs : tk_sg S c = some (kd, N, rl)) (hkd : vwCl[kd]? = some (g.1.cls, TX_of kd, N) ∧ kd < 20) (hdep : g.2.2.2.2.1 < f.2.2.2.2.1 ∧ g.2.2.1 ≤ 21) (h0 : tk_nil g) (hcw : tk_cw st ≤ 8) (hcs : k ≤ f.2.2.2.2.2.1 ∧ n ≤ f.2.2.2.2.2.2) (hsp : Spi G g [xR c, a1, a2] S M P) (kk : ∀ (r : Int) (M' : tk_M), P r M' → Ok G f (pc + 3) ls (xI r :: st) S M' k n Q) : Ok G f pc ls (a2 :: a1 :: xR c :: st) S M k n Q := by
  refine tk_callV (args := [a1, a2]) (Q' := tk_qi S P) hd hm hl ho hs hkd hdep rfl hcw (by rw [h0.1, h0.2]; exact hcs) hsp (fun v S' M' h _ _ _ => ?_)
  obtain ⟨rfl, r, rfl, hP⟩ := h
  rw [h0.1, h0.2]
  exact kk r M' hP
theorem tr_cVi3 {g : tk_F} {own : String} {idx kd N : Nat} {c : Int} {rl : List Int} {a1 a2 a3 : tk_V} {P : Int → tk_M → Prop} (hd : decode f.2.1 pc = .ok (.invokevirtual idx, 3)) (hm : tk_mt g 3) (hl : tk_lv own idx g) (ho : f.1.cls = own) (hs : tk_sg S c = some (kd, N, rl)) (hkd : vwCl[kd]? = some (g.1.cls, TX_of kd, N) ∧ kd < 20) (hdep : g.2.2.2.2.1 < f.2.2.2.2.1 ∧ g.2.2.1 ≤ 21) (h0 : tk_nil g) (hcw : tk_cw st ≤ 8) (hcs : k ≤ f.2.2.2.2.2.1 ∧ n ≤ f.2.2.2.2.2.2) (hsp : Spi G g [xR c, a1, a2, a3] S M P) (kk : ∀ (r : Int) (M' : tk_M), P r M' → Ok G f (pc + 3) ls (xI r :: st) S M' k n Q) : Ok G f pc ls (a3 :: a2 :: a1 :: xR c :: st) S M k n Q := by
  refine tk_callV (args := [a1, a2, a3]) (Q' := tk_qi S P) hd hm hl ho hs hkd hdep rfl hcw (by rw [h0.1, h0.2]; exact hcs) hsp (fun v S' M' h _ _ _ => ?_)
  obtain ⟨rfl, r, rfl, hP⟩ := h
  rw [h0.1, h0.2]
  exact kk r M' hP
theorem tr_cVi4 {g : tk_F} {own : String} {idx kd N : Nat} {c : Int} {rl : List Int} {a1 a2 a3 a4 : tk_V} {P : Int → tk_M → Prop} (hd : decode f.2.1 pc = .ok (.invokevirtual idx, 3)) (hm : tk_mt g 4) (hl : tk_lv own idx g) (ho : f.1.cls = own) (hs : tk_sg S c = some (kd, N, rl)) (hkd : vwCl[kd]? = some (g.1.cls, TX_of kd, N) ∧ kd < 20) (hdep : g.2.2.2.2.1 < f.2.2.2.2.1 ∧ g.2.2.1 ≤ 21) (h0 : tk_nil g) (hcw : tk_cw st ≤ 8) (hcs : k ≤ f.2.2.2.2.2.1 ∧ n ≤ f.2.2.2.2.2.2) (hsp : Spi G g [xR c, a1, a2, a3, a4] S M P) (kk : ∀ (r : Int) (M' : tk_M), P r M' → Ok G f (pc + 3) ls (xI r :: st) S M' k n Q) : Ok G f pc ls (a4 :: a3 :: a2 :: a1 :: xR c :: st) S M k n Q := by
  refine tk_callV (args := [a1, a2, a3, a4]) (Q' := tk_qi S P) hd hm hl ho hs hkd hdep rfl hcw (by rw [h0.1, h0.2]; exact hcs) hsp (fun v S' M' h _ _ _ => ?_)
  obtain ⟨rfl, r, rfl, hP⟩ := h
  rw [h0.1, h0.2]
  exact kk r M' hP
theorem tr_cVi5 {g : tk_F} {own : String} {idx kd N : Nat} {c : Int} {rl : List Int} {a1 a2 a3 a4 a5 : tk_V} {P : Int → tk_M → Prop} (hd : decode f.2.1 pc = .ok (.invokevirtual idx, 3)) (hm : tk_mt g 5) (hl : tk_lv own idx g) (ho : f.1.cls = own) (hs : tk_sg S c = some (kd, N, rl)) (hkd : vwCl[kd]? = some (g.1.cls, TX_of kd, N) ∧ kd < 20) (hdep : g.2.2.2.2.1 < f.2.2.2.2.1 ∧ g.2.2.1 ≤ 21) (h0 : tk_nil g) (hcw : tk_cw st ≤ 8) (hcs : k ≤ f.2.2.2.2.2.1 ∧ n ≤ f.2.2.2.2.2.2) (hsp : Spi G g [xR c, a1, a2, a3, a4, a5] S M P) (kk : ∀ (r : Int) (M' : tk_M), P r M' → Ok G f (pc + 3) ls (xI r :: st) S M' k n Q) : Ok G f pc ls (a5 :: a4 :: a3 :: a2 :: a1 :: xR c :: st) S M k n Q := by
  refine tk_callV (args := [a1, a2, a3, a4, a5]) (Q' := tk_qi S P) hd hm hl ho hs hkd hdep rfl hcw (by rw [h0.1, h0.2]; exact hcs) hsp (fun v S' M' h _ _ _ => ?_)
  obtain ⟨rfl, r, rfl, hP⟩ := h
  rw [h0.1, h0.2]
  exact kk r M' hP
theorem tr_cVi6 {g : tk_F} {own : String} {idx kd N : Nat} {c : Int} {rl : List Int} {a1 a2 a3 a4 a5 a6 : tk_V} {P : Int → tk_M → Prop} (hd : decode f.2.1 pc = .ok (.invokevirtual idx, 3)) (hm : tk_mt g 6) (hl : tk_lv own idx g) (ho : f.1.cls = own) (hs : tk_sg S c = some (kd, N, rl)) (hkd : vwCl[kd]? = some (g.1.cls, TX_of kd, N) ∧ kd < 20) (hdep : g.2.2.2.2.1 < f.2.2.2.2.1 ∧ g.2.2.1 ≤ 21) (h0 : tk_nil g) (hcw : tk_cw st ≤ 8) (hcs : k ≤ f.2.2.2.2.2.1 ∧ n ≤ f.2.2.2.2.2.2) (hsp : Spi G g [xR c, a1, a2, a3, a4, a5, a6] S M P) (kk : ∀ (r : Int) (M' : tk_M), P r M' → Ok G f (pc + 3) ls (xI r :: st) S M' k n Q) : Ok G f pc ls (a6 :: a5 :: a4 :: a3 :: a2 :: a1 :: xR c :: st) S M k n Q := by
  refine tk_callV (args := [a1, a2, a3, a4, a5, a6]) (Q' := tk_qi S P) hd hm hl ho hs hkd hdep rfl hcw (by rw [h0.1, h0.2]; exact hcs) hsp (fun v S' M' h _ _ _ => ?_)
  obtain ⟨rfl, r, rfl, hP⟩ := h
  rw [h0.1, h0.2]
  exact kk r M' hP
theorem tr_cVl0 {g : tk_F} {own : String} {idx kd N : Nat} {c : Int} {rl : List Int} {P : Int → tk_M → Prop} (hd : decode f.2.1 pc = .ok (.invokevirtual idx, 3)) (hm : tk_mt g 0) (hl : tk_lv own idx g) (ho : f.1.cls = own) (hs : tk_sg S c = some (kd, N, rl)) (hkd : vwCl[kd]? = some (g.1.cls, TX_of kd, N) ∧ kd < 20) (hdep : g.2.2.2.2.1 < f.2.2.2.2.1 ∧ g.2.2.1 ≤ 21) (h0 : tk_nil g) (hcw : tk_cw st ≤ 8) (hcs : k ≤ f.2.2.2.2.2.1 ∧ n ≤ f.2.2.2.2.2.2) (hsp : Spl G g [xR c] S M P) (kk : ∀ (r : Int) (M' : tk_M), P r M' → Ok G f (pc + 3) ls (xL r :: st) S M' k n Q) : Ok G f pc ls (xR c :: st) S M k n Q := by
  refine tk_callV (args := []) (Q' := tk_ql S P) hd hm hl ho hs hkd hdep rfl hcw (by rw [h0.1, h0.2]; exact hcs) hsp (fun v S' M' h _ _ _ => ?_)
  obtain ⟨rfl, r, rfl, hP⟩ := h
  rw [h0.1, h0.2]
  exact kk r M' hP
theorem tr_cVl1 {g : tk_F} {own : String} {idx kd N : Nat} {c : Int} {rl : List Int} {a1 : tk_V} {P : Int → tk_M → Prop} (hd : decode f.2.1 pc = .ok (.invokevirtual idx, 3)) (hm : tk_mt g 1) (hl : tk_lv own idx g) (ho : f.1.cls = own) (hs : tk_sg S c = some (kd, N, rl)) (hkd : vwCl[kd]? = some (g.1.cls, TX_of kd, N) ∧ kd < 20) (hdep : g.2.2.2.2.1 < f.2.2.2.2.1 ∧ g.2.2.1 ≤ 21) (h0 : tk_nil g) (hcw : tk_cw st ≤ 8) (hcs : k ≤ f.2.2.2.2.2.1 ∧ n ≤ f.2.2.2.2.2.2) (hsp : Spl G g [xR c, a1] S M P) (kk : ∀ (r : Int) (M' : tk_M), P r M' → Ok G f (pc + 3) ls (xL r :: st) S M' k n Q) : Ok G f pc ls (a1 :: xR c :: st) S M k n Q := by
  refine tk_callV (args := [a1]) (Q' := tk_ql S P) hd hm hl ho hs hkd hdep rfl hcw (by rw [h0.1, h0.2]; exact hcs) hsp (fun v S' M' h _ _ _ => ?_)
  obtain ⟨rfl, r, rfl, hP⟩ := h
  rw [h0.1, h0.2]
  exact kk r M' hP
theorem tr_cVl2 {g : tk_F} {own : String} {idx kd N : Nat} {c : Int} {rl : List Int} {a1 a2 : tk_V} {P : Int → tk_M → Prop} (hd : decode f.2.1 pc = .ok (.invokevirtual idx, 3)) (hm : tk_mt g 2) (hl : tk_lv own idx g) (ho : f.1.cls = own) (hs : tk_sg S c = some (kd, N, rl)) (hkd : vwCl[kd]? = some (g.1.cls, TX_of kd, N) ∧ kd < 20) (hdep : g.2.2.2.2.1 < f.2.2.2.2.1 ∧ g.2.2.1 ≤ 21) (h0 : tk_nil g) (hcw : tk_cw st ≤ 8) (hcs : k ≤ f.2.2.2.2.2.1 ∧ n ≤ f.2.2.2.2.2.2) (hsp : Spl G g [xR c, a1, a2] S M P) (kk : ∀ (r : Int) (M' : tk_M), P r M' → Ok G f (pc + 3) ls (xL r :: st) S M' k n Q) : Ok G f pc ls (a2 :: a1 :: xR c :: st) S M k n Q := by
  refine tk_callV (args := [a1, a2]) (Q' := tk_ql S P) hd hm hl ho hs hkd hdep rfl hcw (by rw [h0.1, h0.2]; exact hcs) hsp (fun v S' M' h _ _ _ => ?_)
  obtain ⟨rfl, r, rfl, hP⟩ := h
  rw [h0.1, h0.2]
  exact kk r M' hP
theorem tr_cVl3 {g : tk_F} {own : String} {idx kd N : Nat} {c : Int} {rl : List Int} {a1 a2 a3 : tk_V} {P : Int → tk_M → Prop} (hd : decode f.2.1 pc = .ok (.invokevirtual idx, 3)) (hm : tk_mt g 3) (hl : tk_lv own idx g) (ho : f.1.cls = own) (hs : tk_sg S c = some (kd, N, rl)) (hkd : vwCl[kd]? = some (g.1.cls, TX_of kd, N) ∧ kd < 20) (hdep : g.2.2.2.2.1 < f.2.2.2.2.1 ∧ g.2.2.1 ≤ 21) (h0 : tk_nil g) (hcw : tk_cw st ≤ 8) (hcs : k ≤ f.2.2.2.2.2.1 ∧ n ≤ f.2.2.2.2.2.2) (hsp : Spl G g [xR c, a1, a2, a3] S M P) (kk : ∀ (r : Int) (M' : tk_M), P r M' → Ok G f (pc + 3) ls (xL r :: st) S M' k n Q) : Ok G f pc ls (a3 :: a2 :: a1 :: xR c :: st) S M k n Q := by
  refine tk_callV (args := [a1, a2, a3]) (Q' := tk_ql S P) hd hm hl ho hs hkd hdep rfl hcw (by rw [h0.1, h0.2]; exact hcs) hsp (fun v S' M' h _ _ _ => ?_)
  obtain ⟨rfl, r, rfl, hP⟩ := h
  rw [h0.1, h0.2]
  exact kk r M' hP
theorem tr_cVl4 {g : tk_F} {own : String} {idx kd N : Nat} {c : Int} {rl : List Int} {a1 a2 a3 a4 : tk_V} {P : Int → tk_M → Prop} (hd : decode f.2.1 pc = .ok (.invokevirtual idx, 3)) (hm : tk_mt g 4) (hl : tk_lv own idx g) (ho : f.1.cls = own) (hs : tk_sg S c = some (kd, N, rl)) (hkd : vwCl[kd]? = some (g.1.cls, TX_of kd, N) ∧ kd < 20) (hdep : g.2.2.2.2.1 < f.2.2.2.2.1 ∧ g.2.2.1 ≤ 21) (h0 : tk_nil g) (hcw : tk_cw st ≤ 8) (hcs : k ≤ f.2.2.2.2.2.1 ∧ n ≤ f.2.2.2.2.2.2) (hsp : Spl G g [xR c, a1, a2, a3, a4] S M P) (kk : ∀ (r : Int) (M' : tk_M), P r M' → Ok G f (pc + 3) ls (xL r :: st) S M' k n Q) : Ok G f pc ls (a4 :: a3 :: a2 :: a1 :: xR c :: st) S M k n Q := by
  refine tk_callV (args := [a1, a2, a3, a4]) (Q' := tk_ql S P) hd hm hl ho hs hkd hdep rfl hcw (by rw [h0.1, h0.2]; exact hcs) hsp (fun v S' M' h _ _ _ => ?_)
  obtain ⟨rfl, r, rfl, hP⟩ := h
  rw [h0.1, h0.2]
  exact kk r M' hP
theorem tr_cVl5 {g : tk_F} {own : String} {idx kd N : Nat} {c : Int} {rl : List Int} {a1 a2 a3 a4 a5 : tk_V} {P : Int → tk_M → Prop} (hd : decode f.2.1 pc = .ok (.invokevirtual idx, 3)) (hm : tk_mt g 5) (hl : tk_lv own idx g) (ho : f.1.cls = own) (hs : tk_sg S c = some (kd, N, rl)) (hkd : vwCl[kd]? = some (g.1.cls, TX_of kd, N) ∧ kd < 20) (hdep : g.2.2.2.2.1 < f.2.2.2.2.1 ∧ g.2.2.1 ≤ 21) (h0 : tk_nil g) (hcw : tk_cw st ≤ 8) (hcs : k ≤ f.2.2.2.2.2.1 ∧ n ≤ f.2.2.2.2.2.2) (hsp : Spl G g [xR c, a1, a2, a3, a4, a5] S M P) (kk : ∀ (r : Int) (M' : tk_M), P r M' → Ok G f (pc + 3) ls (xL r :: st) S M' k n Q) : Ok G f pc ls (a5 :: a4 :: a3 :: a2 :: a1 :: xR c :: st) S M k n Q := by
  refine tk_callV (args := [a1, a2, a3, a4, a5]) (Q' := tk_ql S P) hd hm hl ho hs hkd hdep rfl hcw (by rw [h0.1, h0.2]; exact hcs) hsp (fun v S' M' h _ _ _ => ?_)
  obtain ⟨rfl, r, rfl, hP⟩ := h
  rw [h0.1, h0.2]
  exact kk r M' hP
theorem tr_cVl6 {g : tk_F} {own : String} {idx kd N : Nat} {c : Int} {rl : List Int} {a1 a2 a3 a4 a5 a6 : tk_V} {P : Int → tk_M → Prop} (hd : decode f.2.1 pc = .ok (.invokevirtual idx, 3)) (hm : tk_mt g 6) (hl : tk_lv own idx g) (ho : f.1.cls = own) (hs : tk_sg S c = some (kd, N, rl)) (hkd : vwCl[kd]? = some (g.1.cls, TX_of kd, N) ∧ kd < 20) (hdep : g.2.2.2.2.1 < f.2.2.2.2.1 ∧ g.2.2.1 ≤ 21) (h0 : tk_nil g) (hcw : tk_cw st ≤ 8) (hcs : k ≤ f.2.2.2.2.2.1 ∧ n ≤ f.2.2.2.2.2.2) (hsp : Spl G g [xR c, a1, a2, a3, a4, a5, a6] S M P) (kk : ∀ (r : Int) (M' : tk_M), P r M' → Ok G f (pc + 3) ls (xL r :: st) S M' k n Q) : Ok G f pc ls (a6 :: a5 :: a4 :: a3 :: a2 :: a1 :: xR c :: st) S M k n Q := by
  refine tk_callV (args := [a1, a2, a3, a4, a5, a6]) (Q' := tk_ql S P) hd hm hl ho hs hkd hdep rfl hcw (by rw [h0.1, h0.2]; exact hcs) hsp (fun v S' M' h _ _ _ => ?_)
  obtain ⟨rfl, r, rfl, hP⟩ := h
  rw [h0.1, h0.2]
  exact kk r M' hP
theorem tr_cVr0 {g : tk_F} {own : String} {idx kd N : Nat} {c : Int} {rl : List Int} {P : Int → tk_M → Prop} (hd : decode f.2.1 pc = .ok (.invokevirtual idx, 3)) (hm : tk_mt g 0) (hl : tk_lv own idx g) (ho : f.1.cls = own) (hs : tk_sg S c = some (kd, N, rl)) (hkd : vwCl[kd]? = some (g.1.cls, TX_of kd, N) ∧ kd < 20) (hdep : g.2.2.2.2.1 < f.2.2.2.2.1 ∧ g.2.2.1 ≤ 21) (h0 : tk_nil g) (hcw : tk_cw st ≤ 8) (hcs : k ≤ f.2.2.2.2.2.1 ∧ n ≤ f.2.2.2.2.2.2) (hsp : Spr G g [xR c] S M P) (kk : ∀ (r : Int) (M' : tk_M), P r M' → Ok G f (pc + 3) ls (xR r :: st) S M' k n Q) : Ok G f pc ls (xR c :: st) S M k n Q := by
  refine tk_callV (args := []) (Q' := tk_qr S P) hd hm hl ho hs hkd hdep rfl hcw (by rw [h0.1, h0.2]; exact hcs) hsp (fun v S' M' h _ _ _ => ?_)
  obtain ⟨rfl, r, rfl, hP⟩ := h
  rw [h0.1, h0.2]
  exact kk r M' hP
theorem tr_cVr1 {g : tk_F} {own : String} {idx kd N : Nat} {c : Int} {rl : List Int} {a1 : tk_V} {P : Int → tk_M → Prop} (hd : decode f.2.1 pc = .ok (.invokevirtual idx, 3)) (hm : tk_mt g 1) (hl : tk_lv own idx g) (ho : f.1.cls = own) (hs : tk_sg S c = some (kd, N, rl)) (hkd : vwCl[kd]? = some (g.1.cls, TX_of kd, N) ∧ kd < 20) (hdep : g.2.2.2.2.1 < f.2.2.2.2.1 ∧ g.2.2.1 ≤ 21) (h0 : tk_nil g) (hcw : tk_cw st ≤ 8) (hcs : k ≤ f.2.2.2.2.2.1 ∧ n ≤ f.2.2.2.2.2.2) (hsp : Spr G g [xR c, a1] S M P) (kk : ∀ (r : Int) (M' : tk_M), P r M' → Ok G f (pc + 3) ls (xR r :: st) S M' k n Q) : Ok G f pc ls (a1 :: xR c :: st) S M k n Q := by
  refine tk_callV (args := [a1]) (Q' := tk_qr S P) hd hm hl ho hs hkd hdep rfl hcw (by rw [h0.1, h0.2]; exact hcs) hsp (fun v S' M' h _ _ _ => ?_)
  obtain ⟨rfl, r, rfl, hP⟩ := h
  rw [h0.1, h0.2]
  exact kk r M' hP
theorem tr_cVr2 {g : tk_F} {own : String} {idx kd N : Nat} {c : Int} {rl : List Int} {a1 a2 : tk_V} {P : Int → tk_M → Prop} (hd : decode f.2.1 pc = .ok (.invokevirtual idx, 3)) (hm : tk_mt g 2) (hl : tk_lv own idx g) (ho : f.1.cls = own) (hs : tk_sg S c = some (kd, N, rl)) (hkd : vwCl[kd]? = some (g.1.cls, TX_of kd, N) ∧ kd < 20) (hdep : g.2.2.2.2.1 < f.2.2.2.2.1 ∧ g.2.2.1 ≤ 21) (h0 : tk_nil g) (hcw : tk_cw st ≤ 8) (hcs : k ≤ f.2.2.2.2.2.1 ∧ n ≤ f.2.2.2.2.2.2) (hsp : Spr G g [xR c, a1, a2] S M P) (kk : ∀ (r : Int) (M' : tk_M), P r M' → Ok G f (pc + 3) ls (xR r :: st) S M' k n Q) : Ok G f pc ls (a2 :: a1 :: xR c :: st) S M k n Q := by
  refine tk_callV (args := [a1, a2]) (Q' := tk_qr S P) hd hm hl ho hs hkd hdep rfl hcw (by rw [h0.1, h0.2]; exact hcs) hsp (fun v S' M' h _ _ _ => ?_)
  obtain ⟨rfl, r, rfl, hP⟩ := h
  rw [h0.1, h0.2]
  exact kk r M' hP
theorem tr_cVr3 {g : tk_F} {own : String} {idx kd N : Nat} {c : Int} {rl : List Int} {a1 a2 a3 : tk_V} {P : Int → tk_M → Prop} (hd : decode f.2.1 pc = .ok (.invokevirtual idx, 3)) (hm : tk_mt g 3) (hl : tk_lv own idx g) (ho : f.1.cls = own) (hs : tk_sg S c = some (kd, N, rl)) (hkd : vwCl[kd]? = some (g.1.cls, TX_of kd, N) ∧ kd < 20) (hdep : g.2.2.2.2.1 < f.2.2.2.2.1 ∧ g.2.2.1 ≤ 21) (h0 : tk_nil g) (hcw : tk_cw st ≤ 8) (hcs : k ≤ f.2.2.2.2.2.1 ∧ n ≤ f.2.2.2.2.2.2) (hsp : Spr G g [xR c, a1, a2, a3] S M P) (kk : ∀ (r : Int) (M' : tk_M), P r M' → Ok G f (pc + 3) ls (xR r :: st) S M' k n Q) : Ok G f pc ls (a3 :: a2 :: a1 :: xR c :: st) S M k n Q := by
  refine tk_callV (args := [a1, a2, a3]) (Q' := tk_qr S P) hd hm hl ho hs hkd hdep rfl hcw (by rw [h0.1, h0.2]; exact hcs) hsp (fun v S' M' h _ _ _ => ?_)
  obtain ⟨rfl, r, rfl, hP⟩ := h
  rw [h0.1, h0.2]
  exact kk r M' hP
theorem tr_cVr4 {g : tk_F} {own : String} {idx kd N : Nat} {c : Int} {rl : List Int} {a1 a2 a3 a4 : tk_V} {P : Int → tk_M → Prop} (hd : decode f.2.1 pc = .ok (.invokevirtual idx, 3)) (hm : tk_mt g 4) (hl : tk_lv own idx g) (ho : f.1.cls = own) (hs : tk_sg S c = some (kd, N, rl)) (hkd : vwCl[kd]? = some (g.1.cls, TX_of kd, N) ∧ kd < 20) (hdep : g.2.2.2.2.1 < f.2.2.2.2.1 ∧ g.2.2.1 ≤ 21) (h0 : tk_nil g) (hcw : tk_cw st ≤ 8) (hcs : k ≤ f.2.2.2.2.2.1 ∧ n ≤ f.2.2.2.2.2.2) (hsp : Spr G g [xR c, a1, a2, a3, a4] S M P) (kk : ∀ (r : Int) (M' : tk_M), P r M' → Ok G f (pc + 3) ls (xR r :: st) S M' k n Q) : Ok G f pc ls (a4 :: a3 :: a2 :: a1 :: xR c :: st) S M k n Q := by
  refine tk_callV (args := [a1, a2, a3, a4]) (Q' := tk_qr S P) hd hm hl ho hs hkd hdep rfl hcw (by rw [h0.1, h0.2]; exact hcs) hsp (fun v S' M' h _ _ _ => ?_)
  obtain ⟨rfl, r, rfl, hP⟩ := h
  rw [h0.1, h0.2]
  exact kk r M' hP
theorem tr_cVr5 {g : tk_F} {own : String} {idx kd N : Nat} {c : Int} {rl : List Int} {a1 a2 a3 a4 a5 : tk_V} {P : Int → tk_M → Prop} (hd : decode f.2.1 pc = .ok (.invokevirtual idx, 3)) (hm : tk_mt g 5) (hl : tk_lv own idx g) (ho : f.1.cls = own) (hs : tk_sg S c = some (kd, N, rl)) (hkd : vwCl[kd]? = some (g.1.cls, TX_of kd, N) ∧ kd < 20) (hdep : g.2.2.2.2.1 < f.2.2.2.2.1 ∧ g.2.2.1 ≤ 21) (h0 : tk_nil g) (hcw : tk_cw st ≤ 8) (hcs : k ≤ f.2.2.2.2.2.1 ∧ n ≤ f.2.2.2.2.2.2) (hsp : Spr G g [xR c, a1, a2, a3, a4, a5] S M P) (kk : ∀ (r : Int) (M' : tk_M), P r M' → Ok G f (pc + 3) ls (xR r :: st) S M' k n Q) : Ok G f pc ls (a5 :: a4 :: a3 :: a2 :: a1 :: xR c :: st) S M k n Q := by
  refine tk_callV (args := [a1, a2, a3, a4, a5]) (Q' := tk_qr S P) hd hm hl ho hs hkd hdep rfl hcw (by rw [h0.1, h0.2]; exact hcs) hsp (fun v S' M' h _ _ _ => ?_)
  obtain ⟨rfl, r, rfl, hP⟩ := h
  rw [h0.1, h0.2]
  exact kk r M' hP
theorem tr_cVr6 {g : tk_F} {own : String} {idx kd N : Nat} {c : Int} {rl : List Int} {a1 a2 a3 a4 a5 a6 : tk_V} {P : Int → tk_M → Prop} (hd : decode f.2.1 pc = .ok (.invokevirtual idx, 3)) (hm : tk_mt g 6) (hl : tk_lv own idx g) (ho : f.1.cls = own) (hs : tk_sg S c = some (kd, N, rl)) (hkd : vwCl[kd]? = some (g.1.cls, TX_of kd, N) ∧ kd < 20) (hdep : g.2.2.2.2.1 < f.2.2.2.2.1 ∧ g.2.2.1 ≤ 21) (h0 : tk_nil g) (hcw : tk_cw st ≤ 8) (hcs : k ≤ f.2.2.2.2.2.1 ∧ n ≤ f.2.2.2.2.2.2) (hsp : Spr G g [xR c, a1, a2, a3, a4, a5, a6] S M P) (kk : ∀ (r : Int) (M' : tk_M), P r M' → Ok G f (pc + 3) ls (xR r :: st) S M' k n Q) : Ok G f pc ls (a6 :: a5 :: a4 :: a3 :: a2 :: a1 :: xR c :: st) S M k n Q := by
  refine tk_callV (args := [a1, a2, a3, a4, a5, a6]) (Q' := tk_qr S P) hd hm hl ho hs hkd hdep rfl hcw (by rw [h0.1, h0.2]; exact hcs) hsp (fun v S' M' h _ _ _ => ?_)
  obtain ⟨rfl, r, rfl, hP⟩ := h
  rw [h0.1, h0.2]
  exact kk r M' hP
theorem tr_cVv0 {g : tk_F} {own : String} {idx kd N : Nat} {c : Int} {rl : List Int} {P : tk_M → Prop} (hd : decode f.2.1 pc = .ok (.invokevirtual idx, 3)) (hm : tk_mt g 0) (hl : tk_lv own idx g) (ho : f.1.cls = own) (hs : tk_sg S c = some (kd, N, rl)) (hkd : vwCl[kd]? = some (g.1.cls, TX_of kd, N) ∧ kd < 20) (hdep : g.2.2.2.2.1 < f.2.2.2.2.1 ∧ g.2.2.1 ≤ 21) (h0 : tk_nil g) (hcw : tk_cw st ≤ 8) (hcs : k ≤ f.2.2.2.2.2.1 ∧ n ≤ f.2.2.2.2.2.2) (hsp : Spv G g [xR c] S M P) (kk : ∀ (M' : tk_M), P M' → Ok G f (pc + 3) ls st S M' k n Q) : Ok G f pc ls (xR c :: st) S M k n Q := by
  refine tk_callV (args := []) (Q' := tk_qv S P) hd hm hl ho hs hkd hdep rfl hcw (by rw [h0.1, h0.2]; exact hcs) hsp (fun v S' M' h _ _ _ => ?_)
  obtain ⟨rfl, rfl, hP⟩ := h
  rw [h0.1, h0.2]
  exact kk M' hP
theorem tr_cVv1 {g : tk_F} {own : String} {idx kd N : Nat} {c : Int} {rl : List Int} {a1 : tk_V} {P : tk_M → Prop} (hd : decode f.2.1 pc = .ok (.invokevirtual idx, 3)) (hm : tk_mt g 1) (hl : tk_lv own idx g) (ho : f.1.cls = own) (hs : tk_sg S c = some (kd, N, rl)) (hkd : vwCl[kd]? = some (g.1.cls, TX_of kd, N) ∧ kd < 20) (hdep : g.2.2.2.2.1 < f.2.2.2.2.1 ∧ g.2.2.1 ≤ 21) (h0 : tk_nil g) (hcw : tk_cw st ≤ 8) (hcs : k ≤ f.2.2.2.2.2.1 ∧ n ≤ f.2.2.2.2.2.2) (hsp : Spv G g [xR c, a1] S M P) (kk : ∀ (M' : tk_M), P M' → Ok G f (pc + 3) ls st S M' k n Q) : Ok G f pc ls (a1 :: xR c :: st) S M k n Q := by
  refine tk_callV (args := [a1]) (Q' := tk_qv S P) hd hm hl ho hs hkd hdep rfl hcw (by rw [h0.1, h0.2]; exact hcs) hsp (fun v S' M' h _ _ _ => ?_)
  obtain ⟨rfl, rfl, hP⟩ := h
  rw [h0.1, h0.2]
  exact kk M' hP
theorem tr_cVv2 {g : tk_F} {own : String} {idx kd N : Nat} {c : Int} {rl : List Int} {a1 a2 : tk_V} {P : tk_M → Prop} (hd : decode f.2.1 pc = .ok (.invokevirtual idx, 3)) (hm : tk_mt g 2) (hl : tk_lv own idx g) (ho : f.1.cls = own) (hs : tk_sg S c = some (kd, N, rl)) (hkd : vwCl[kd]? = some (g.1.cls, TX_of kd, N) ∧ kd < 20) (hdep : g.2.2.2.2.1 < f.2.2.2.2.1 ∧ g.2.2.1 ≤ 21) (h0 : tk_nil g) (hcw : tk_cw st ≤ 8) (hcs : k ≤ f.2.2.2.2.2.1 ∧ n ≤ f.2.2.2.2.2.2) (hsp : Spv G g [xR c, a1, a2] S M P) (kk : ∀ (M' : tk_M), P M' → Ok G f (pc + 3) ls st S M' k n Q) : Ok G f pc ls (a2 :: a1 :: xR c :: st) S M k n Q := by
  refine tk_callV (args := [a1, a2]) (Q' := tk_qv S P) hd hm hl ho hs hkd hdep rfl hcw (by rw [h0.1, h0.2]; exact hcs) hsp (fun v S' M' h _ _ _ => ?_)
  obtain ⟨rfl, rfl, hP⟩ := h
  rw [h0.1, h0.2]
  exact kk M' hP
theorem tr_cVv3 {g : tk_F} {own : String} {idx kd N : Nat} {c : Int} {rl : List Int} {a1 a2 a3 : tk_V} {P : tk_M → Prop} (hd : decode f.2.1 pc = .ok (.invokevirtual idx, 3)) (hm : tk_mt g 3) (hl : tk_lv own idx g) (ho : f.1.cls = own) (hs : tk_sg S c = some (kd, N, rl)) (hkd : vwCl[kd]? = some (g.1.cls, TX_of kd, N) ∧ kd < 20) (hdep : g.2.2.2.2.1 < f.2.2.2.2.1 ∧ g.2.2.1 ≤ 21) (h0 : tk_nil g) (hcw : tk_cw st ≤ 8) (hcs : k ≤ f.2.2.2.2.2.1 ∧ n ≤ f.2.2.2.2.2.2) (hsp : Spv G g [xR c, a1, a2, a3] S M P) (kk : ∀ (M' : tk_M), P M' → Ok G f (pc + 3) ls st S M' k n Q) : Ok G f pc ls (a3 :: a2 :: a1 :: xR c :: st) S M k n Q := by
  refine tk_callV (args := [a1, a2, a3]) (Q' := tk_qv S P) hd hm hl ho hs hkd hdep rfl hcw (by rw [h0.1, h0.2]; exact hcs) hsp (fun v S' M' h _ _ _ => ?_)
  obtain ⟨rfl, rfl, hP⟩ := h
  rw [h0.1, h0.2]
  exact kk M' hP
theorem tr_cVv4 {g : tk_F} {own : String} {idx kd N : Nat} {c : Int} {rl : List Int} {a1 a2 a3 a4 : tk_V} {P : tk_M → Prop} (hd : decode f.2.1 pc = .ok (.invokevirtual idx, 3)) (hm : tk_mt g 4) (hl : tk_lv own idx g) (ho : f.1.cls = own) (hs : tk_sg S c = some (kd, N, rl)) (hkd : vwCl[kd]? = some (g.1.cls, TX_of kd, N) ∧ kd < 20) (hdep : g.2.2.2.2.1 < f.2.2.2.2.1 ∧ g.2.2.1 ≤ 21) (h0 : tk_nil g) (hcw : tk_cw st ≤ 8) (hcs : k ≤ f.2.2.2.2.2.1 ∧ n ≤ f.2.2.2.2.2.2) (hsp : Spv G g [xR c, a1, a2, a3, a4] S M P) (kk : ∀ (M' : tk_M), P M' → Ok G f (pc + 3) ls st S M' k n Q) : Ok G f pc ls (a4 :: a3 :: a2 :: a1 :: xR c :: st) S M k n Q := by
  refine tk_callV (args := [a1, a2, a3, a4]) (Q' := tk_qv S P) hd hm hl ho hs hkd hdep rfl hcw (by rw [h0.1, h0.2]; exact hcs) hsp (fun v S' M' h _ _ _ => ?_)
  obtain ⟨rfl, rfl, hP⟩ := h
  rw [h0.1, h0.2]
  exact kk M' hP
theorem tr_cVv5 {g : tk_F} {own : String} {idx kd N : Nat} {c : Int} {rl : List Int} {a1 a2 a3 a4 a5 : tk_V} {P : tk_M → Prop} (hd : decode f.2.1 pc = .ok (.invokevirtual idx, 3)) (hm : tk_mt g 5) (hl : tk_lv own idx g) (ho : f.1.cls = own) (hs : tk_sg S c = some (kd, N, rl)) (hkd : vwCl[kd]? = some (g.1.cls, TX_of kd, N) ∧ kd < 20) (hdep : g.2.2.2.2.1 < f.2.2.2.2.1 ∧ g.2.2.1 ≤ 21) (h0 : tk_nil g) (hcw : tk_cw st ≤ 8) (hcs : k ≤ f.2.2.2.2.2.1 ∧ n ≤ f.2.2.2.2.2.2) (hsp : Spv G g [xR c, a1, a2, a3, a4, a5] S M P) (kk : ∀ (M' : tk_M), P M' → Ok G f (pc + 3) ls st S M' k n Q) : Ok G f pc ls (a5 :: a4 :: a3 :: a2 :: a1 :: xR c :: st) S M k n Q := by
  refine tk_callV (args := [a1, a2, a3, a4, a5]) (Q' := tk_qv S P) hd hm hl ho hs hkd hdep rfl hcw (by rw [h0.1, h0.2]; exact hcs) hsp (fun v S' M' h _ _ _ => ?_)
  obtain ⟨rfl, rfl, hP⟩ := h
  rw [h0.1, h0.2]
  exact kk M' hP
theorem tr_cVv6 {g : tk_F} {own : String} {idx kd N : Nat} {c : Int} {rl : List Int} {a1 a2 a3 a4 a5 a6 : tk_V} {P : tk_M → Prop} (hd : decode f.2.1 pc = .ok (.invokevirtual idx, 3)) (hm : tk_mt g 6) (hl : tk_lv own idx g) (ho : f.1.cls = own) (hs : tk_sg S c = some (kd, N, rl)) (hkd : vwCl[kd]? = some (g.1.cls, TX_of kd, N) ∧ kd < 20) (hdep : g.2.2.2.2.1 < f.2.2.2.2.1 ∧ g.2.2.1 ≤ 21) (h0 : tk_nil g) (hcw : tk_cw st ≤ 8) (hcs : k ≤ f.2.2.2.2.2.1 ∧ n ≤ f.2.2.2.2.2.2) (hsp : Spv G g [xR c, a1, a2, a3, a4, a5, a6] S M P) (kk : ∀ (M' : tk_M), P M' → Ok G f (pc + 3) ls st S M' k n Q) : Ok G f pc ls (a6 :: a5 :: a4 :: a3 :: a2 :: a1 :: xR c :: st) S M k n Q := by
  refine tk_callV (args := [a1, a2, a3, a4, a5, a6]) (Q' := tk_qv S P) hd hm hl ho hs hkd hdep rfl hcw (by rw [h0.1, h0.2]; exact hcs) hsp (fun v S' M' h _ _ _ => ?_)
  obtain ⟨rfl, rfl, hP⟩ := h
  rw [h0.1, h0.2]
  exact kk M' hP
theorem tr_cSi0 {g : tk_F} {own : String} {idx : Nat} {P : Int → tk_M → Prop} (hd : decode f.2.1 pc = .ok (.invokestatic idx, 3)) (hm : tk_mt g 0) (hl : tk_ls own idx g) (ho : f.1.cls = own) (hdep : g.2.2.2.2.1 < f.2.2.2.2.1 ∧ g.2.2.1 ≤ 21) (h0 : tk_nil g) (hcw : tk_cw st ≤ 8) (hcs : k ≤ f.2.2.2.2.2.1 ∧ n ≤ f.2.2.2.2.2.2) (hsp : Spi G g [] S M P) (kk : ∀ (r : Int) (M' : tk_M), P r M' → Ok G f (pc + 3) ls (xI r :: st) S M' k n Q) : Ok G f pc ls (st) S M k n Q := by
  refine tk_callS (args := []) (Q' := tk_qi S P) hd hm hl ho hdep rfl hcw (by rw [h0.1, h0.2]; exact hcs) hsp (fun v S' M' h _ _ _ => ?_)
  obtain ⟨rfl, r, rfl, hP⟩ := h
  rw [h0.1, h0.2]
  exact kk r M' hP
theorem tr_cSi1 {g : tk_F} {own : String} {idx : Nat} {a1 : tk_V} {P : Int → tk_M → Prop} (hd : decode f.2.1 pc = .ok (.invokestatic idx, 3)) (hm : tk_mt g 1) (hl : tk_ls own idx g) (ho : f.1.cls = own) (hdep : g.2.2.2.2.1 < f.2.2.2.2.1 ∧ g.2.2.1 ≤ 21) (h0 : tk_nil g) (hcw : tk_cw st ≤ 8) (hcs : k ≤ f.2.2.2.2.2.1 ∧ n ≤ f.2.2.2.2.2.2) (hsp : Spi G g [a1] S M P) (kk : ∀ (r : Int) (M' : tk_M), P r M' → Ok G f (pc + 3) ls (xI r :: st) S M' k n Q) : Ok G f pc ls (a1 :: st) S M k n Q := by
  refine tk_callS (args := [a1]) (Q' := tk_qi S P) hd hm hl ho hdep rfl hcw (by rw [h0.1, h0.2]; exact hcs) hsp (fun v S' M' h _ _ _ => ?_)
  obtain ⟨rfl, r, rfl, hP⟩ := h
  rw [h0.1, h0.2]
  exact kk r M' hP
theorem tr_cSi2 {g : tk_F} {own : String} {idx : Nat} {a1 a2 : tk_V} {P : Int → tk_M → Prop} (hd : decode f.2.1 pc = .ok (.invokestatic idx, 3)) (hm : tk_mt g 2) (hl : tk_ls own idx g) (ho : f.1.cls = own) (hdep : g.2.2.2.2.1 < f.2.2.2.2.1 ∧ g.2.2.1 ≤ 21) (h0 : tk_nil g) (hcw : tk_cw st ≤ 8) (hcs : k ≤ f.2.2.2.2.2.1 ∧ n ≤ f.2.2.2.2.2.2) (hsp : Spi G g [a1, a2] S M P) (kk : ∀ (r : Int) (M' : tk_M), P r M' → Ok G f (pc + 3) ls (xI r :: st) S M' k n Q) : Ok G f pc ls (a2 :: a1 :: st) S M k n Q := by
  refine tk_callS (args := [a1, a2]) (Q' := tk_qi S P) hd hm hl ho hdep rfl hcw (by rw [h0.1, h0.2]; exact hcs) hsp (fun v S' M' h _ _ _ => ?_)
  obtain ⟨rfl, r, rfl, hP⟩ := h
  rw [h0.1, h0.2]
  exact kk r M' hP
theorem tr_cSi3 {g : tk_F} {own : String} {idx : Nat} {a1 a2 a3 : tk_V} {P : Int → tk_M → Prop} (hd : decode f.2.1 pc = .ok (.invokestatic idx, 3)) (hm : tk_mt g 3) (hl : tk_ls own idx g) (ho : f.1.cls = own) (hdep : g.2.2.2.2.1 < f.2.2.2.2.1 ∧ g.2.2.1 ≤ 21) (h0 : tk_nil g) (hcw : tk_cw st ≤ 8) (hcs : k ≤ f.2.2.2.2.2.1 ∧ n ≤ f.2.2.2.2.2.2) (hsp : Spi G g [a1, a2, a3] S M P) (kk : ∀ (r : Int) (M' : tk_M), P r M' → Ok G f (pc + 3) ls (xI r :: st) S M' k n Q) : Ok G f pc ls (a3 :: a2 :: a1 :: st) S M k n Q := by
  refine tk_callS (args := [a1, a2, a3]) (Q' := tk_qi S P) hd hm hl ho hdep rfl hcw (by rw [h0.1, h0.2]; exact hcs) hsp (fun v S' M' h _ _ _ => ?_)
  obtain ⟨rfl, r, rfl, hP⟩ := h
  rw [h0.1, h0.2]
  exact kk r M' hP
theorem tr_cSi4 {g : tk_F} {own : String} {idx : Nat} {a1 a2 a3 a4 : tk_V} {P : Int → tk_M → Prop} (hd : decode f.2.1 pc = .ok (.invokestatic idx, 3)) (hm : tk_mt g 4) (hl : tk_ls own idx g) (ho : f.1.cls = own) (hdep : g.2.2.2.2.1 < f.2.2.2.2.1 ∧ g.2.2.1 ≤ 21) (h0 : tk_nil g) (hcw : tk_cw st ≤ 8) (hcs : k ≤ f.2.2.2.2.2.1 ∧ n ≤ f.2.2.2.2.2.2) (hsp : Spi G g [a1, a2, a3, a4] S M P) (kk : ∀ (r : Int) (M' : tk_M), P r M' → Ok G f (pc + 3) ls (xI r :: st) S M' k n Q) : Ok G f pc ls (a4 :: a3 :: a2 :: a1 :: st) S M k n Q := by
  refine tk_callS (args := [a1, a2, a3, a4]) (Q' := tk_qi S P) hd hm hl ho hdep rfl hcw (by rw [h0.1, h0.2]; exact hcs) hsp (fun v S' M' h _ _ _ => ?_)
  obtain ⟨rfl, r, rfl, hP⟩ := h
  rw [h0.1, h0.2]
  exact kk r M' hP
theorem tr_cSi5 {g : tk_F} {own : String} {idx : Nat} {a1 a2 a3 a4 a5 : tk_V} {P : Int → tk_M → Prop} (hd : decode f.2.1 pc = .ok (.invokestatic idx, 3)) (hm : tk_mt g 5) (hl : tk_ls own idx g) (ho : f.1.cls = own) (hdep : g.2.2.2.2.1 < f.2.2.2.2.1 ∧ g.2.2.1 ≤ 21) (h0 : tk_nil g) (hcw : tk_cw st ≤ 8) (hcs : k ≤ f.2.2.2.2.2.1 ∧ n ≤ f.2.2.2.2.2.2) (hsp : Spi G g [a1, a2, a3, a4, a5] S M P) (kk : ∀ (r : Int) (M' : tk_M), P r M' → Ok G f (pc + 3) ls (xI r :: st) S M' k n Q) : Ok G f pc ls (a5 :: a4 :: a3 :: a2 :: a1 :: st) S M k n Q := by
  refine tk_callS (args := [a1, a2, a3, a4, a5]) (Q' := tk_qi S P) hd hm hl ho hdep rfl hcw (by rw [h0.1, h0.2]; exact hcs) hsp (fun v S' M' h _ _ _ => ?_)
  obtain ⟨rfl, r, rfl, hP⟩ := h
  rw [h0.1, h0.2]
  exact kk r M' hP
theorem tr_cSi6 {g : tk_F} {own : String} {idx : Nat} {a1 a2 a3 a4 a5 a6 : tk_V} {P : Int → tk_M → Prop} (hd : decode f.2.1 pc = .ok (.invokestatic idx, 3)) (hm : tk_mt g 6) (hl : tk_ls own idx g) (ho : f.1.cls = own) (hdep : g.2.2.2.2.1 < f.2.2.2.2.1 ∧ g.2.2.1 ≤ 21) (h0 : tk_nil g) (hcw : tk_cw st ≤ 8) (hcs : k ≤ f.2.2.2.2.2.1 ∧ n ≤ f.2.2.2.2.2.2) (hsp : Spi G g [a1, a2, a3, a4, a5, a6] S M P) (kk : ∀ (r : Int) (M' : tk_M), P r M' → Ok G f (pc + 3) ls (xI r :: st) S M' k n Q) : Ok G f pc ls (a6 :: a5 :: a4 :: a3 :: a2 :: a1 :: st) S M k n Q := by
  refine tk_callS (args := [a1, a2, a3, a4, a5, a6]) (Q' := tk_qi S P) hd hm hl ho hdep rfl hcw (by rw [h0.1, h0.2]; exact hcs) hsp (fun v S' M' h _ _ _ => ?_)
  obtain ⟨rfl, r, rfl, hP⟩ := h
  rw [h0.1, h0.2]
  exact kk r M' hP
theorem tr_cSl0 {g : tk_F} {own : String} {idx : Nat} {P : Int → tk_M → Prop} (hd : decode f.2.1 pc = .ok (.invokestatic idx, 3)) (hm : tk_mt g 0) (hl : tk_ls own idx g) (ho : f.1.cls = own) (hdep : g.2.2.2.2.1 < f.2.2.2.2.1 ∧ g.2.2.1 ≤ 21) (h0 : tk_nil g) (hcw : tk_cw st ≤ 8) (hcs : k ≤ f.2.2.2.2.2.1 ∧ n ≤ f.2.2.2.2.2.2) (hsp : Spl G g [] S M P) (kk : ∀ (r : Int) (M' : tk_M), P r M' → Ok G f (pc + 3) ls (xL r :: st) S M' k n Q) : Ok G f pc ls (st) S M k n Q := by
  refine tk_callS (args := []) (Q' := tk_ql S P) hd hm hl ho hdep rfl hcw (by rw [h0.1, h0.2]; exact hcs) hsp (fun v S' M' h _ _ _ => ?_)
  obtain ⟨rfl, r, rfl, hP⟩ := h
  rw [h0.1, h0.2]
  exact kk r M' hP
theorem tr_cSl1 {g : tk_F} {own : String} {idx : Nat} {a1 : tk_V} {P : Int → tk_M → Prop} (hd : decode f.2.1 pc = .ok (.invokestatic idx, 3)) (hm : tk_mt g 1) (hl : tk_ls own idx g) (ho : f.1.cls = own) (hdep : g.2.2.2.2.1 < f.2.2.2.2.1 ∧ g.2.2.1 ≤ 21) (h0 : tk_nil g) (hcw : tk_cw st ≤ 8) (hcs : k ≤ f.2.2.2.2.2.1 ∧ n ≤ f.2.2.2.2.2.2) (hsp : Spl G g [a1] S M P) (kk : ∀ (r : Int) (M' : tk_M), P r M' → Ok G f (pc + 3) ls (xL r :: st) S M' k n Q) : Ok G f pc ls (a1 :: st) S M k n Q := by
  refine tk_callS (args := [a1]) (Q' := tk_ql S P) hd hm hl ho hdep rfl hcw (by rw [h0.1, h0.2]; exact hcs) hsp (fun v S' M' h _ _ _ => ?_)
  obtain ⟨rfl, r, rfl, hP⟩ := h
  rw [h0.1, h0.2]
  exact kk r M' hP
theorem tr_cSl2 {g : tk_F} {own : String} {idx : Nat} {a1 a2 : tk_V} {P : Int → tk_M → Prop} (hd : decode f.2.1 pc = .ok (.invokestatic idx, 3)) (hm : tk_mt g 2) (hl : tk_ls own idx g) (ho : f.1.cls = own) (hdep : g.2.2.2.2.1 < f.2.2.2.2.1 ∧ g.2.2.1 ≤ 21) (h0 : tk_nil g) (hcw : tk_cw st ≤ 8) (hcs : k ≤ f.2.2.2.2.2.1 ∧ n ≤ f.2.2.2.2.2.2) (hsp : Spl G g [a1, a2] S M P) (kk : ∀ (r : Int) (M' : tk_M), P r M' → Ok G f (pc + 3) ls (xL r :: st) S M' k n Q) : Ok G f pc ls (a2 :: a1 :: st) S M k n Q := by
  refine tk_callS (args := [a1, a2]) (Q' := tk_ql S P) hd hm hl ho hdep rfl hcw (by rw [h0.1, h0.2]; exact hcs) hsp (fun v S' M' h _ _ _ => ?_)
  obtain ⟨rfl, r, rfl, hP⟩ := h
  rw [h0.1, h0.2]
  exact kk r M' hP
theorem tr_cSl3 {g : tk_F} {own : String} {idx : Nat} {a1 a2 a3 : tk_V} {P : Int → tk_M → Prop} (hd : decode f.2.1 pc = .ok (.invokestatic idx, 3)) (hm : tk_mt g 3) (hl : tk_ls own idx g) (ho : f.1.cls = own) (hdep : g.2.2.2.2.1 < f.2.2.2.2.1 ∧ g.2.2.1 ≤ 21) (h0 : tk_nil g) (hcw : tk_cw st ≤ 8) (hcs : k ≤ f.2.2.2.2.2.1 ∧ n ≤ f.2.2.2.2.2.2) (hsp : Spl G g [a1, a2, a3] S M P) (kk : ∀ (r : Int) (M' : tk_M), P r M' → Ok G f (pc + 3) ls (xL r :: st) S M' k n Q) : Ok G f pc ls (a3 :: a2 :: a1 :: st) S M k n Q := by
  refine tk_callS (args := [a1, a2, a3]) (Q' := tk_ql S P) hd hm hl ho hdep rfl hcw (by rw [h0.1, h0.2]; exact hcs) hsp (fun v S' M' h _ _ _ => ?_)
  obtain ⟨rfl, r, rfl, hP⟩ := h
  rw [h0.1, h0.2]
  exact kk r M' hP
theorem tr_cSl4 {g : tk_F} {own : String} {idx : Nat} {a1 a2 a3 a4 : tk_V} {P : Int → tk_M → Prop} (hd : decode f.2.1 pc = .ok (.invokestatic idx, 3)) (hm : tk_mt g 4) (hl : tk_ls own idx g) (ho : f.1.cls = own) (hdep : g.2.2.2.2.1 < f.2.2.2.2.1 ∧ g.2.2.1 ≤ 21) (h0 : tk_nil g) (hcw : tk_cw st ≤ 8) (hcs : k ≤ f.2.2.2.2.2.1 ∧ n ≤ f.2.2.2.2.2.2) (hsp : Spl G g [a1, a2, a3, a4] S M P) (kk : ∀ (r : Int) (M' : tk_M), P r M' → Ok G f (pc + 3) ls (xL r :: st) S M' k n Q) : Ok G f pc ls (a4 :: a3 :: a2 :: a1 :: st) S M k n Q := by
  refine tk_callS (args := [a1, a2, a3, a4]) (Q' := tk_ql S P) hd hm hl ho hdep rfl hcw (by rw [h0.1, h0.2]; exact hcs) hsp (fun v S' M' h _ _ _ => ?_)
  obtain ⟨rfl, r, rfl, hP⟩ := h
  rw [h0.1, h0.2]
  exact kk r M' hP
theorem tr_cSl5 {g : tk_F} {own : String} {idx : Nat} {a1 a2 a3 a4 a5 : tk_V} {P : Int → tk_M → Prop} (hd : decode f.2.1 pc = .ok (.invokestatic idx, 3)) (hm : tk_mt g 5) (hl : tk_ls own idx g) (ho : f.1.cls = own) (hdep : g.2.2.2.2.1 < f.2.2.2.2.1 ∧ g.2.2.1 ≤ 21) (h0 : tk_nil g) (hcw : tk_cw st ≤ 8) (hcs : k ≤ f.2.2.2.2.2.1 ∧ n ≤ f.2.2.2.2.2.2) (hsp : Spl G g [a1, a2, a3, a4, a5] S M P) (kk : ∀ (r : Int) (M' : tk_M), P r M' → Ok G f (pc + 3) ls (xL r :: st) S M' k n Q) : Ok G f pc ls (a5 :: a4 :: a3 :: a2 :: a1 :: st) S M k n Q := by
  refine tk_callS (args := [a1, a2, a3, a4, a5]) (Q' := tk_ql S P) hd hm hl ho hdep rfl hcw (by rw [h0.1, h0.2]; exact hcs) hsp (fun v S' M' h _ _ _ => ?_)
  obtain ⟨rfl, r, rfl, hP⟩ := h
  rw [h0.1, h0.2]
  exact kk r M' hP
theorem tr_cSl6 {g : tk_F} {own : String} {idx : Nat} {a1 a2 a3 a4 a5 a6 : tk_V} {P : Int → tk_M → Prop} (hd : decode f.2.1 pc = .ok (.invokestatic idx, 3)) (hm : tk_mt g 6) (hl : tk_ls own idx g) (ho : f.1.cls = own) (hdep : g.2.2.2.2.1 < f.2.2.2.2.1 ∧ g.2.2.1 ≤ 21) (h0 : tk_nil g) (hcw : tk_cw st ≤ 8) (hcs : k ≤ f.2.2.2.2.2.1 ∧ n ≤ f.2.2.2.2.2.2) (hsp : Spl G g [a1, a2, a3, a4, a5, a6] S M P) (kk : ∀ (r : Int) (M' : tk_M), P r M' → Ok G f (pc + 3) ls (xL r :: st) S M' k n Q) : Ok G f pc ls (a6 :: a5 :: a4 :: a3 :: a2 :: a1 :: st) S M k n Q := by
  refine tk_callS (args := [a1, a2, a3, a4, a5, a6]) (Q' := tk_ql S P) hd hm hl ho hdep rfl hcw (by rw [h0.1, h0.2]; exact hcs) hsp (fun v S' M' h _ _ _ => ?_)
  obtain ⟨rfl, r, rfl, hP⟩ := h
  rw [h0.1, h0.2]
  exact kk r M' hP
theorem tr_cSr0 {g : tk_F} {own : String} {idx : Nat} {P : Int → tk_M → Prop} (hd : decode f.2.1 pc = .ok (.invokestatic idx, 3)) (hm : tk_mt g 0) (hl : tk_ls own idx g) (ho : f.1.cls = own) (hdep : g.2.2.2.2.1 < f.2.2.2.2.1 ∧ g.2.2.1 ≤ 21) (h0 : tk_nil g) (hcw : tk_cw st ≤ 8) (hcs : k ≤ f.2.2.2.2.2.1 ∧ n ≤ f.2.2.2.2.2.2) (hsp : Spr G g [] S M P) (kk : ∀ (r : Int) (M' : tk_M), P r M' → Ok G f (pc + 3) ls (xR r :: st) S M' k n Q) : Ok G f pc ls (st) S M k n Q := by
  refine tk_callS (args := []) (Q' := tk_qr S P) hd hm hl ho hdep rfl hcw (by rw [h0.1, h0.2]; exact hcs) hsp (fun v S' M' h _ _ _ => ?_)
  obtain ⟨rfl, r, rfl, hP⟩ := h
  rw [h0.1, h0.2]
  exact kk r M' hP
theorem tr_cSr1 {g : tk_F} {own : String} {idx : Nat} {a1 : tk_V} {P : Int → tk_M → Prop} (hd : decode f.2.1 pc = .ok (.invokestatic idx, 3)) (hm : tk_mt g 1) (hl : tk_ls own idx g) (ho : f.1.cls = own) (hdep : g.2.2.2.2.1 < f.2.2.2.2.1 ∧ g.2.2.1 ≤ 21) (h0 : tk_nil g) (hcw : tk_cw st ≤ 8) (hcs : k ≤ f.2.2.2.2.2.1 ∧ n ≤ f.2.2.2.2.2.2) (hsp : Spr G g [a1] S M P) (kk : ∀ (r : Int) (M' : tk_M), P r M' → Ok G f (pc + 3) ls (xR r :: st) S M' k n Q) : Ok G f pc ls (a1 :: st) S M k n Q := by
  refine tk_callS (args := [a1]) (Q' := tk_qr S P) hd hm hl ho hdep rfl hcw (by rw [h0.1, h0.2]; exact hcs) hsp (fun v S' M' h _ _ _ => ?_)
  obtain ⟨rfl, r, rfl, hP⟩ := h
  rw [h0.1, h0.2]
  exact kk r M' hP
theorem tr_cSr2 {g : tk_F} {own : String} {idx : Nat} {a1 a2 : tk_V} {P : Int → tk_M → Prop} (hd : decode f.2.1 pc = .ok (.invokestatic idx, 3)) (hm : tk_mt g 2) (hl : tk_ls own idx g) (ho : f.1.cls = own) (hdep : g.2.2.2.2.1 < f.2.2.2.2.1 ∧ g.2.2.1 ≤ 21) (h0 : tk_nil g) (hcw : tk_cw st ≤ 8) (hcs : k ≤ f.2.2.2.2.2.1 ∧ n ≤ f.2.2.2.2.2.2) (hsp : Spr G g [a1, a2] S M P) (kk : ∀ (r : Int) (M' : tk_M), P r M' → Ok G f (pc + 3) ls (xR r :: st) S M' k n Q) : Ok G f pc ls (a2 :: a1 :: st) S M k n Q := by
  refine tk_callS (args := [a1, a2]) (Q' := tk_qr S P) hd hm hl ho hdep rfl hcw (by rw [h0.1, h0.2]; exact hcs) hsp (fun v S' M' h _ _ _ => ?_)
  obtain ⟨rfl, r, rfl, hP⟩ := h
  rw [h0.1, h0.2]
  exact kk r M' hP
theorem tr_cSr3 {g : tk_F} {own : String} {idx : Nat} {a1 a2 a3 : tk_V} {P : Int → tk_M → Prop} (hd : decode f.2.1 pc = .ok (.invokestatic idx, 3)) (hm : tk_mt g 3) (hl : tk_ls own idx g) (ho : f.1.cls = own) (hdep : g.2.2.2.2.1 < f.2.2.2.2.1 ∧ g.2.2.1 ≤ 21) (h0 : tk_nil g) (hcw : tk_cw st ≤ 8) (hcs : k ≤ f.2.2.2.2.2.1 ∧ n ≤ f.2.2.2.2.2.2) (hsp : Spr G g [a1, a2, a3] S M P) (kk : ∀ (r : Int) (M' : tk_M), P r M' → Ok G f (pc + 3) ls (xR r :: st) S M' k n Q) : Ok G f pc ls (a3 :: a2 :: a1 :: st) S M k n Q := by
  refine tk_callS (args := [a1, a2, a3]) (Q' := tk_qr S P) hd hm hl ho hdep rfl hcw (by rw [h0.1, h0.2]; exact hcs) hsp (fun v S' M' h _ _ _ => ?_)
  obtain ⟨rfl, r, rfl, hP⟩ := h
  rw [h0.1, h0.2]
  exact kk r M' hP
theorem tr_cSr4 {g : tk_F} {own : String} {idx : Nat} {a1 a2 a3 a4 : tk_V} {P : Int → tk_M → Prop} (hd : decode f.2.1 pc = .ok (.invokestatic idx, 3)) (hm : tk_mt g 4) (hl : tk_ls own idx g) (ho : f.1.cls = own) (hdep : g.2.2.2.2.1 < f.2.2.2.2.1 ∧ g.2.2.1 ≤ 21) (h0 : tk_nil g) (hcw : tk_cw st ≤ 8) (hcs : k ≤ f.2.2.2.2.2.1 ∧ n ≤ f.2.2.2.2.2.2) (hsp : Spr G g [a1, a2, a3, a4] S M P) (kk : ∀ (r : Int) (M' : tk_M), P r M' → Ok G f (pc + 3) ls (xR r :: st) S M' k n Q) : Ok G f pc ls (a4 :: a3 :: a2 :: a1 :: st) S M k n Q := by
  refine tk_callS (args := [a1, a2, a3, a4]) (Q' := tk_qr S P) hd hm hl ho hdep rfl hcw (by rw [h0.1, h0.2]; exact hcs) hsp (fun v S' M' h _ _ _ => ?_)
  obtain ⟨rfl, r, rfl, hP⟩ := h
  rw [h0.1, h0.2]
  exact kk r M' hP
theorem tr_cSr5 {g : tk_F} {own : String} {idx : Nat} {a1 a2 a3 a4 a5 : tk_V} {P : Int → tk_M → Prop} (hd : decode f.2.1 pc = .ok (.invokestatic idx, 3)) (hm : tk_mt g 5) (hl : tk_ls own idx g) (ho : f.1.cls = own) (hdep : g.2.2.2.2.1 < f.2.2.2.2.1 ∧ g.2.2.1 ≤ 21) (h0 : tk_nil g) (hcw : tk_cw st ≤ 8) (hcs : k ≤ f.2.2.2.2.2.1 ∧ n ≤ f.2.2.2.2.2.2) (hsp : Spr G g [a1, a2, a3, a4, a5] S M P) (kk : ∀ (r : Int) (M' : tk_M), P r M' → Ok G f (pc + 3) ls (xR r :: st) S M' k n Q) : Ok G f pc ls (a5 :: a4 :: a3 :: a2 :: a1 :: st) S M k n Q := by
  refine tk_callS (args := [a1, a2, a3, a4, a5]) (Q' := tk_qr S P) hd hm hl ho hdep rfl hcw (by rw [h0.1, h0.2]; exact hcs) hsp (fun v S' M' h _ _ _ => ?_)
  obtain ⟨rfl, r, rfl, hP⟩ := h
  rw [h0.1, h0.2]
  exact kk r M' hP
theorem tr_cSr6 {g : tk_F} {own : String} {idx : Nat} {a1 a2 a3 a4 a5 a6 : tk_V} {P : Int → tk_M → Prop} (hd : decode f.2.1 pc = .ok (.invokestatic idx, 3)) (hm : tk_mt g 6) (hl : tk_ls own idx g) (ho : f.1.cls = own) (hdep : g.2.2.2.2.1 < f.2.2.2.2.1 ∧ g.2.2.1 ≤ 21) (h0 : tk_nil g) (hcw : tk_cw st ≤ 8) (hcs : k ≤ f.2.2.2.2.2.1 ∧ n ≤ f.2.2.2.2.2.2) (hsp : Spr G g [a1, a2, a3, a4, a5, a6] S M P) (kk : ∀ (r : Int) (M' : tk_M), P r M' → Ok G f (pc + 3) ls (xR r :: st) S M' k n Q) : Ok G f pc ls (a6 :: a5 :: a4 :: a3 :: a2 :: a1 :: st) S M k n Q := by
  refine tk_callS (args := [a1, a2, a3, a4, a5, a6]) (Q' := tk_qr S P) hd hm hl ho hdep rfl hcw (by rw [h0.1, h0.2]; exact hcs) hsp (fun v S' M' h _ _ _ => ?_)
  obtain ⟨rfl, r, rfl, hP⟩ := h
  rw [h0.1, h0.2]
  exact kk r M' hP
theorem tr_cSv0 {g : tk_F} {own : String} {idx : Nat} {P : tk_M → Prop} (hd : decode f.2.1 pc = .ok (.invokestatic idx, 3)) (hm : tk_mt g 0) (hl : tk_ls own idx g) (ho : f.1.cls = own) (hdep : g.2.2.2.2.1 < f.2.2.2.2.1 ∧ g.2.2.1 ≤ 21) (h0 : tk_nil g) (hcw : tk_cw st ≤ 8) (hcs : k ≤ f.2.2.2.2.2.1 ∧ n ≤ f.2.2.2.2.2.2) (hsp : Spv G g [] S M P) (kk : ∀ (M' : tk_M), P M' → Ok G f (pc + 3) ls st S M' k n Q) : Ok G f pc ls (st) S M k n Q := by
  refine tk_callS (args := []) (Q' := tk_qv S P) hd hm hl ho hdep rfl hcw (by rw [h0.1, h0.2]; exact hcs) hsp (fun v S' M' h _ _ _ => ?_)
  obtain ⟨rfl, rfl, hP⟩ := h
  rw [h0.1, h0.2]
  exact kk M' hP
theorem tr_cSv1 {g : tk_F} {own : String} {idx : Nat} {a1 : tk_V} {P : tk_M → Prop} (hd : decode f.2.1 pc = .ok (.invokestatic idx, 3)) (hm : tk_mt g 1) (hl : tk_ls own idx g) (ho : f.1.cls = own) (hdep : g.2.2.2.2.1 < f.2.2.2.2.1 ∧ g.2.2.1 ≤ 21) (h0 : tk_nil g) (hcw : tk_cw st ≤ 8) (hcs : k ≤ f.2.2.2.2.2.1 ∧ n ≤ f.2.2.2.2.2.2) (hsp : Spv G g [a1] S M P) (kk : ∀ (M' : tk_M), P M' → Ok G f (pc + 3) ls st S M' k n Q) : Ok G f pc ls (a1 :: st) S M k n Q := by
  refine tk_callS (args := [a1]) (Q' := tk_qv S P) hd hm hl ho hdep rfl hcw (by rw [h0.1, h0.2]; exact hcs) hsp (fun v S' M' h _ _ _ => ?_)
  obtain ⟨rfl, rfl, hP⟩ := h
  rw [h0.1, h0.2]
  exact kk M' hP
theorem tr_cSv2 {g : tk_F} {own : String} {idx : Nat} {a1 a2 : tk_V} {P : tk_M → Prop} (hd : decode f.2.1 pc = .ok (.invokestatic idx, 3)) (hm : tk_mt g 2) (hl : tk_ls own idx g) (ho : f.1.cls = own) (hdep : g.2.2.2.2.1 < f.2.2.2.2.1 ∧ g.2.2.1 ≤ 21) (h0 : tk_nil g) (hcw : tk_cw st ≤ 8) (hcs : k ≤ f.2.2.2.2.2.1 ∧ n ≤ f.2.2.2.2.2.2) (hsp : Spv G g [a1, a2] S M P) (kk : ∀ (M' : tk_M), P M' → Ok G f (pc + 3) ls st S M' k n Q) : Ok G f pc ls (a2 :: a1 :: st) S M k n Q := by
  refine tk_callS (args := [a1, a2]) (Q' := tk_qv S P) hd hm hl ho hdep rfl hcw (by rw [h0.1, h0.2]; exact hcs) hsp (fun v S' M' h _ _ _ => ?_)
  obtain ⟨rfl, rfl, hP⟩ := h
  rw [h0.1, h0.2]
  exact kk M' hP
theorem tr_cSv3 {g : tk_F} {own : String} {idx : Nat} {a1 a2 a3 : tk_V} {P : tk_M → Prop} (hd : decode f.2.1 pc = .ok (.invokestatic idx, 3)) (hm : tk_mt g 3) (hl : tk_ls own idx g) (ho : f.1.cls = own) (hdep : g.2.2.2.2.1 < f.2.2.2.2.1 ∧ g.2.2.1 ≤ 21) (h0 : tk_nil g) (hcw : tk_cw st ≤ 8) (hcs : k ≤ f.2.2.2.2.2.1 ∧ n ≤ f.2.2.2.2.2.2) (hsp : Spv G g [a1, a2, a3] S M P) (kk : ∀ (M' : tk_M), P M' → Ok G f (pc + 3) ls st S M' k n Q) : Ok G f pc ls (a3 :: a2 :: a1 :: st) S M k n Q := by
  refine tk_callS (args := [a1, a2, a3]) (Q' := tk_qv S P) hd hm hl ho hdep rfl hcw (by rw [h0.1, h0.2]; exact hcs) hsp (fun v S' M' h _ _ _ => ?_)
  obtain ⟨rfl, rfl, hP⟩ := h
  rw [h0.1, h0.2]
  exact kk M' hP
theorem tr_cSv4 {g : tk_F} {own : String} {idx : Nat} {a1 a2 a3 a4 : tk_V} {P : tk_M → Prop} (hd : decode f.2.1 pc = .ok (.invokestatic idx, 3)) (hm : tk_mt g 4) (hl : tk_ls own idx g) (ho : f.1.cls = own) (hdep : g.2.2.2.2.1 < f.2.2.2.2.1 ∧ g.2.2.1 ≤ 21) (h0 : tk_nil g) (hcw : tk_cw st ≤ 8) (hcs : k ≤ f.2.2.2.2.2.1 ∧ n ≤ f.2.2.2.2.2.2) (hsp : Spv G g [a1, a2, a3, a4] S M P) (kk : ∀ (M' : tk_M), P M' → Ok G f (pc + 3) ls st S M' k n Q) : Ok G f pc ls (a4 :: a3 :: a2 :: a1 :: st) S M k n Q := by
  refine tk_callS (args := [a1, a2, a3, a4]) (Q' := tk_qv S P) hd hm hl ho hdep rfl hcw (by rw [h0.1, h0.2]; exact hcs) hsp (fun v S' M' h _ _ _ => ?_)
  obtain ⟨rfl, rfl, hP⟩ := h
  rw [h0.1, h0.2]
  exact kk M' hP
theorem tr_cSv5 {g : tk_F} {own : String} {idx : Nat} {a1 a2 a3 a4 a5 : tk_V} {P : tk_M → Prop} (hd : decode f.2.1 pc = .ok (.invokestatic idx, 3)) (hm : tk_mt g 5) (hl : tk_ls own idx g) (ho : f.1.cls = own) (hdep : g.2.2.2.2.1 < f.2.2.2.2.1 ∧ g.2.2.1 ≤ 21) (h0 : tk_nil g) (hcw : tk_cw st ≤ 8) (hcs : k ≤ f.2.2.2.2.2.1 ∧ n ≤ f.2.2.2.2.2.2) (hsp : Spv G g [a1, a2, a3, a4, a5] S M P) (kk : ∀ (M' : tk_M), P M' → Ok G f (pc + 3) ls st S M' k n Q) : Ok G f pc ls (a5 :: a4 :: a3 :: a2 :: a1 :: st) S M k n Q := by
  refine tk_callS (args := [a1, a2, a3, a4, a5]) (Q' := tk_qv S P) hd hm hl ho hdep rfl hcw (by rw [h0.1, h0.2]; exact hcs) hsp (fun v S' M' h _ _ _ => ?_)
  obtain ⟨rfl, rfl, hP⟩ := h
  rw [h0.1, h0.2]
  exact kk M' hP
theorem tr_cSv6 {g : tk_F} {own : String} {idx : Nat} {a1 a2 a3 a4 a5 a6 : tk_V} {P : tk_M → Prop} (hd : decode f.2.1 pc = .ok (.invokestatic idx, 3)) (hm : tk_mt g 6) (hl : tk_ls own idx g) (ho : f.1.cls = own) (hdep : g.2.2.2.2.1 < f.2.2.2.2.1 ∧ g.2.2.1 ≤ 21) (h0 : tk_nil g) (hcw : tk_cw st ≤ 8) (hcs : k ≤ f.2.2.2.2.2.1 ∧ n ≤ f.2.2.2.2.2.2) (hsp : Spv G g [a1, a2, a3, a4, a5, a6] S M P) (kk : ∀ (M' : tk_M), P M' → Ok G f (pc + 3) ls st S M' k n Q) : Ok G f pc ls (a6 :: a5 :: a4 :: a3 :: a2 :: a1 :: st) S M k n Q := by
  refine tk_callS (args := [a1, a2, a3, a4, a5, a6]) (Q' := tk_qv S P) hd hm hl ho hdep rfl hcw (by rw [h0.1, h0.2]; exact hcs) hsp (fun v S' M' h _ _ _ => ?_)
  obtain ⟨rfl, rfl, hP⟩ := h
  rw [h0.1, h0.2]
  exact kk M' hP
end TkRows4
end
section
section TkRows5
variable {G : tk_G} {f : tk_F} {pc : Nat} {ls st : List tk_V} {S : tk_S} {M : tk_M} {k n : Nat} {Q : tk_V → tk_S → tk_M → Prop}
def tk_mth (own : String) (idx : Nat) (y : MethodName) (b : ByteArray) : Prop := Cond.methodLink own idx y ∈ tk_tb ∧ Cond.static y ∈ tk_tb ∧ Cond.initialized "java/lang/Math" ∈ tk_tb ∧ Cond.code y b 2 (some .int) ∈ tk_tb
theorem tr_min {own : String} {idx : Nat} {x z : Int} (hd : decode f.2.1 pc = .ok (.invokestatic idx, 3)) (hm : tk_mth own idx Lib.Math.min.name Lib.Math.min.code) (ho : f.1.cls = own) (hdep : 1 ≤ f.2.2.2.2.1) (hcw : tk_cw st ≤ 8) (hcs : k ≤ f.2.2.2.2.2.1 ∧ n ≤ f.2.2.2.2.2.2) (kk : Ok G f (pc + 3) ls (xI (min x z) :: st) S M k n Q) : Ok G f pc ls (xI z :: xI x :: st) S M k n Q := by
  intro p l e s m args below meth c H locs la Z F hW hS hl hn hls hst hR
  have hz := tk_ok_I.mp (hst _ List.mem_cons_self)
  have hx := tk_ok_I.mp (hst _ (List.mem_cons_of_mem _ List.mem_cons_self))
  have hr : tk_r32 (min x z) := by unfold tk_r32 at *; omega
  have h := kk p l e s m args below meth c H locs la Z F hW hS hl hn hls (tk_okc (tk_ok_I.mpr hr) (tk_okt (tk_okt hst))) hR
  subst ho
  refine va_mmin F.1 F.2.1 (F.2.2.1.trans (hn.1.symm.trans hl.1.symm)) F.2.2.2.1 (F.2.2.2.2.1 _ hm.1) (F.2.2.2.2.1 _ hm.2.1) (F.2.2.2.2.1 _ hm.2.2.1) (F.2.2.2.2.1 _ hm.2.2.2) hdep ?_ hcs.1 hcs.2 hd ?_
  · rw [tk_cw_eq]; show tk_cw st + 13 ≤ 40 * f.2.2.2.2.1; omega
  · have e1 : (if Int32.ofInt z < Int32.ofInt x then Int32.ofInt z else Int32.ofInt x) = Int32.ofInt (min x z) := by
      by_cases h1 : z < x
      · rw [if_pos ((i32_lt hz hx).mpr h1)]; congr 1; omega
      · rw [if_neg (fun h2 => h1 ((i32_lt hz hx).mp h2))]; congr 1; omega
    rw [e1]; exact h
theorem tr_max {own : String} {idx : Nat} {x z : Int} (hd : decode f.2.1 pc = .ok (.invokestatic idx, 3)) (hm : tk_mth own idx Lib.Math.max.name Lib.Math.max.code) (ho : f.1.cls = own) (hdep : 1 ≤ f.2.2.2.2.1) (hcw : tk_cw st ≤ 8) (hcs : k ≤ f.2.2.2.2.2.1 ∧ n ≤ f.2.2.2.2.2.2) (kk : Ok G f (pc + 3) ls (xI (max x z) :: st) S M k n Q) : Ok G f pc ls (xI z :: xI x :: st) S M k n Q := by
  intro p l e s m args below meth c H locs la Z F hW hS hl hn hls hst hR
  have hz := tk_ok_I.mp (hst _ List.mem_cons_self)
  have hx := tk_ok_I.mp (hst _ (List.mem_cons_of_mem _ List.mem_cons_self))
  have hr : tk_r32 (max x z) := by unfold tk_r32 at *; omega
  have h := kk p l e s m args below meth c H locs la Z F hW hS hl hn hls (tk_okc (tk_ok_I.mpr hr) (tk_okt (tk_okt hst))) hR
  subst ho
  refine va_mmax F.1 F.2.1 (F.2.2.1.trans (hn.1.symm.trans hl.1.symm)) F.2.2.2.1 (F.2.2.2.2.1 _ hm.1) (F.2.2.2.2.1 _ hm.2.1) (F.2.2.2.2.1 _ hm.2.2.1) (F.2.2.2.2.1 _ hm.2.2.2) hdep ?_ hcs.1 hcs.2 hd ?_
  · rw [tk_cw_eq]; show tk_cw st + 13 ≤ 40 * f.2.2.2.2.1; omega
  · have e1 : (if Int32.ofInt x < Int32.ofInt z then Int32.ofInt z else Int32.ofInt x) = Int32.ofInt (max x z) := by
      by_cases h1 : x < z
      · rw [if_pos ((i32_lt hx hz).mpr h1)]; congr 1; omega
      · rw [if_neg (fun h2 => h1 ((i32_lt hx hz).mp h2))]; congr 1; omega
    rw [e1]; exact h
/-- lowerOf, called by its nest mate -/
theorem tr_lower {g : tk_F} {a1 a2 : tk_V} {P : Int → tk_M → Prop} (hg : g.1 = yX9_lowerOf) (hd : decode f.2.1 pc = .ok (.invokestatic 49, 3)) (hm : tk_mt g 2) (hs1 : Cond.static g.1 ∈ tk_tb) (ho : f.1.cls = RX3) (hdep : g.2.2.2.2.1 < f.2.2.2.2.1 ∧ g.2.2.1 ≤ 21) (h0 : tk_nil g) (hcw : tk_cw st ≤ 8) (hcs : k ≤ f.2.2.2.2.2.1 ∧ n ≤ f.2.2.2.2.2.2) (hsp : Spi G g [a1, a2] S M P) (kk : ∀ (r : Int) (M' : tk_M), P r M' → Ok G f (pc + 3) ls (xI r :: st) S M' k n Q) : Ok G f pc ls (a2 :: a1 :: st) S M k n Q := by
  intro p l e s m av below meth c0 H locs la Z F hW hS hle hn hls hst hR
  intro T hT X
  have hz := tk_size hW hS hn.2 F.2.2.2.2.2.1.2.2.2.2.2 hT X
  have hss : ∀ v ∈ st, tk_ok v := tk_okt (tk_okt hst)
  have hsa : ∀ v ∈ [a1, a2], tk_ok v := tk_okc (hst _ (List.mem_cons_of_mem _ List.mem_cons_self)) (tk_okc (hst _ List.mem_cons_self) (fun v hv => by cases hv))
  refine tk_after (g := g) (Q' := tk_qi S P) (T := T) (av := ([a1, a2].map (tk_e G)).toArray) ?_ hT X F hS hle hn hls hss hR (fun v S' M' h _ _ _ => by
    obtain ⟨rfl, r, rfl, hP⟩ := h
    rw [h0.1, h0.2]
    exact kk r M' hP)
  obtain ⟨m1, m2, m3, m4, m5, -⟩ := hm
  have hlk : (Cond.methodLinkNest f.1.cls 49 g.1 RX9).before av s = true := by
    rw [ho, hg]
    exact va_Nw.use rfl F.2.2.2.2.2.1.2.2.2.2.1
  refine va_runSN (As := [a1, a2].map (tk_e G)) (n := 2) (bytes := g.2.1) (maxL := g.2.2.1) (ret := g.2.2.2.1) (host := RX9) ⟨F.1, F.2.1, rfl, F.2.2.2.1, F.2.2.2.2.1⟩ (hsp l) ⟨⟨⟨rfl, rfl, hdep.1, ?_, fun w hw a' U hW => ?_, List.mem_cons_self⟩, F.2.2.2.2.1 _ m1, F.2.2.2.2.1 _ m2, ⟨m3, m4⟩, fun sig hsig => ?_, hlk⟩, F.2.2.2.2.1 _ hs1, trivial⟩ ⟨tk_blind _, fun U hU hWm => ⟨rfl, hsa, by rw [hU]; exact hW, by rw [hU]; exact hz, ?_⟩⟩ rfl rfl (hle.1.trans (hn.1.trans F.2.2.1.symm)) rfl ?_ hd (by rw [h0.1, h0.2]; exact hcs)
  · show 8 + (g.2.2.1 + 11) + 40 * g.2.2.2.2.1 ≤ 40 * f.2.2.2.2.1
    omega
  · have hw2 : w ∈ tk_tb := by
      rcases List.mem_cons.mp hw with h | h
      · rw [h]; exact m1
      · exact h
    exact word_at hW (tk_good w hw2).2 (F.2.2.2.2.1 w hw2)
  · rw [hsig] at m5; exact (Option.some.inj m5).symm
  · rw [hU]
    exact (F.2.2.2.2.2.1.moved hWm).kept hS.1 (fun a h1 h2 => hS.2.1 a h1 h2)
  · refine lv_room ?_
    rw [tk_cw_eq]; exact hcw
/-- arraycopy of ints, of longs -/
def tk_cp (M : tk_M) (a sp b dp z : Int) : tk_M := fun c i => if c = b ∧ dp ≤ i ∧ i < dp + z then M a (sp + (i - dp)) else M c i
def tk_ac (own : String) (idx : Nat) : Prop := Cond.methodLink own idx arraycopyName ∈ tk_tb ∧ Cond.native arraycopyName ∈ tk_tb ∧ Cond.static arraycopyName ∈ tk_tb ∧ Cond.initialized "java/lang/System" ∈ tk_tb
theorem tk_mok_cp {a sp b dp z : Int} {q q0 : tk_C} (h : tk_mok S M) (hs : tk_sg S b = some q) (hs0 : tk_sg S a = some q0) (hk : q0.1 = q.1) (h0 : 0 ≤ sp) (h1 : sp + z ≤ q0.2.1) : tk_mok S (tk_cp M a sp b dp z) := by
  obtain ⟨g0, g1⟩ := tk_sg_at hs
  intro c' q' hq j hj
  unfold tk_cp
  by_cases e : (c' : Int) = b ∧ dp ≤ (j : Int) ∧ (j : Int) < dp + z
  · rw [if_pos e]
    have e2 : c' = b.toNat := by omega
    subst e2
    rw [g1] at hq
    cases hq
    rw [← hk]
    exact tk_mok_at h hs0 (by omega) (by omega)
  · rw [if_neg e]
    exact h c' q' hq j hj
theorem tr_copyi {own : String} {idx : Nat} {a b sp dp z : Int} {N0 N1 : Nat} {rl0 rl1 : List Int} (hd : decode f.2.1 pc = .ok (.invokestatic idx, 3)) (hm : tk_ac own idx) (ho : f.1.cls = own) (hdep : 1 ≤ f.2.2.2.2.1) (hcw : tk_cw st ≤ 8) (hs0 : tk_sg S a = some (20, N0, rl0)) (hs1 : tk_sg S b = some (20, N1, rl1)) (h1 : 0 ≤ sp) (h2 : 0 ≤ dp) (h3 : 0 ≤ z) (h4 : sp + z ≤ N0) (h5 : dp + z ≤ N1) (kk : Ok G f (pc + 3) ls st S (tk_cp M a sp b dp z) k n Q) : Ok G f pc ls (xI z :: xI dp :: xR b :: xI sp :: xR a :: st) S M k n Q := by
  intro p l e s m args below meth c H locs la Z F hW hS hl hn hls hst hR
  have rz := tk_ok_I.mp (hst _ List.mem_cons_self)
  have rd := tk_ok_I.mp (hst _ (List.mem_cons_of_mem _ List.mem_cons_self))
  have rs := tk_ok_I.mp (tk_okt (tk_okt (tk_okt hst)) _ List.mem_cons_self)
  have e0 := tk_ws_at (G := G) (M := M) hs0
  have e1 := tk_ws_at (G := G) (M := M) hs1
  obtain ⟨g0, g1⟩ := tk_sg_at hs1
  have hset : (tk_ws G S M).set b.toNat (G.1 + b.toNat, .inl (G.2.2.1 0, N1, .inl (va_cpy (fun j => Int32.ofInt (M a j)) (fun j => Int32.ofInt (M b j)) (Int32.ofInt sp).toNatClampNeg (Int32.ofInt dp).toNatClampNeg (Int32.ofInt z).toNatClampNeg))) = tk_ws G S (tk_cp M a sp b dp z) := by
    rw [← tk_ws_set (S := S) (S' := S) (M := M) (M' := tk_cp M a sp b dp z) (q := (20, N1, rl1)) g0 rfl g1 (fun j hj => ⟨rfl, by funext i; unfold tk_cp; rw [if_neg (by omega)]⟩)]
    show _ = (tk_ws G S M).set b.toNat (G.1 + b.toNat, .inl (G.2.2.1 0, N1, .inl (fun j => Int32.ofInt (tk_cp M a sp b dp z b j))))
    congr 6
    funext j
    rw [i32_nat rs, i32_nat rd, i32_nat rz]
    unfold va_cpy tk_cp
    by_cases hj : dp.toNat ≤ j ∧ j < dp.toNat + z.toNat
    · rw [if_pos hj, if_pos (by omega)]
      dsimp only
      rw [show (((sp.toNat + (j - dp.toNat) : Nat)) : Int) = sp + ((j : Int) - dp) by omega]
    · rw [if_neg hj, if_neg (by omega)]
  subst ho
  rw [List.map_cons, List.map_cons, List.map_cons, List.map_cons, List.map_cons, tk_eR g0, tk_eR (tk_sg_at hs0).1]
  refine va_copyi F.1 F.2.1 (F.2.2.1.trans (hn.1.symm.trans hl.1.symm)) F.2.2.2.1 (F.2.2.2.2.1 _ hm.1) (F.2.2.2.2.1 _ hm.2.1) (F.2.2.2.2.1 _ hm.2.2.1) (F.2.2.2.2.1 _ hm.2.2.2) F.2.2.2.2.2.1.1 hW.1 (tk_ws_D G S M) hS a.toNat b.toNat 0 0 e0 e1 rfl rfl rfl ?_ ?_ ?_ ?_ ?_ (fun _ _ => rfl) hdep ?_ hd (fun H1 locs1 hP1 _ hS1 => ?_)
  · exact fun h => absurd ((i32_lt rs tk_r32_0).mp h) (by omega)
  · exact fun h => absurd ((i32_lt rd tk_r32_0).mp h) (by omega)
  · exact fun h => absurd ((i32_lt rz tk_r32_0).mp h) (by omega)
  · rw [i32_nat rs, i32_nat rz]; show _ ≤ N0; omega
  · rw [i32_nat rd, i32_nat rz]; show _ ≤ N1; omega
  · rw [tk_cw_eq]
    have e5 : nativeFrameWords "java/lang/System" "arraycopy" 5 = 7 := by decide
    rw [e5]
    show tk_cw st + (7 + 11) ≤ 40 * f.2.2.2.2.1; omega
  · rw [hset] at hP1
    exact kk p l e s m args below meth c H1 locs1 la Z F ⟨hP1, tk_mok_cp hW.2 hs1 hs0 rfl h1 h4⟩ hS1 hl hn hls (tk_okt (tk_okt (tk_okt (tk_okt (tk_okt hst))))) hR
theorem tr_copyl {own : String} {idx : Nat} {a b sp dp z : Int} {N0 N1 : Nat} {rl0 rl1 : List Int} (hd : decode f.2.1 pc = .ok (.invokestatic idx, 3)) (hm : tk_ac own idx) (ho : f.1.cls = own) (hdep : 1 ≤ f.2.2.2.2.1) (hcw : tk_cw st ≤ 8) (hs0 : tk_sg S a = some (21, N0, rl0)) (hs1 : tk_sg S b = some (21, N1, rl1)) (h1 : 0 ≤ sp) (h2 : 0 ≤ dp) (h3 : 0 ≤ z) (h4 : sp + z ≤ N0) (h5 : dp + z ≤ N1) (kk : Ok G f (pc + 3) ls st S (tk_cp M a sp b dp z) k n Q) : Ok G f pc ls (xI z :: xI dp :: xR b :: xI sp :: xR a :: st) S M k n Q := by
  intro p l e s m args below meth c H locs la Z F hW hS hl hn hls hst hR
  have rz := tk_ok_I.mp (hst _ List.mem_cons_self)
  have rd := tk_ok_I.mp (hst _ (List.mem_cons_of_mem _ List.mem_cons_self))
  have rs := tk_ok_I.mp (tk_okt (tk_okt (tk_okt hst)) _ List.mem_cons_self)
  have e0 := tk_ws_at (G := G) (M := M) hs0
  have e1 := tk_ws_at (G := G) (M := M) hs1
  obtain ⟨g0, g1⟩ := tk_sg_at hs1
  have hset : (tk_ws G S M).set b.toNat (G.1 + b.toNat, .inl (G.2.2.1 1, N1, .inr (.inl (va_cpy (fun j => Int64.ofInt (M a j)) (fun j => Int64.ofInt (M b j)) (Int32.ofInt sp).toNatClampNeg (Int32.ofInt dp).toNatClampNeg (Int32.ofInt z).toNatClampNeg)))) = tk_ws G S (tk_cp M a sp b dp z) := by
    rw [← tk_ws_set (S := S) (S' := S) (M := M) (M' := tk_cp M a sp b dp z) (q := (21, N1, rl1)) g0 rfl g1 (fun j hj => ⟨rfl, by funext i; unfold tk_cp; rw [if_neg (by omega)]⟩)]
    show _ = (tk_ws G S M).set b.toNat (G.1 + b.toNat, .inl (G.2.2.1 1, N1, .inr (.inl (fun j => Int64.ofInt (tk_cp M a sp b dp z b j)))))
    congr 7
    funext j
    rw [i32_nat rs, i32_nat rd, i32_nat rz]
    unfold va_cpy tk_cp
    by_cases hj : dp.toNat ≤ j ∧ j < dp.toNat + z.toNat
    · rw [if_pos hj, if_pos (by omega)]
      dsimp only
      rw [show (((sp.toNat + (j - dp.toNat) : Nat)) : Int) = sp + ((j : Int) - dp) by omega]
    · rw [if_neg hj, if_neg (by omega)]
  subst ho
  rw [List.map_cons, List.map_cons, List.map_cons, List.map_cons, List.map_cons, tk_eR g0, tk_eR (tk_sg_at hs0).1]
  refine va_copyl F.1 F.2.1 (F.2.2.1.trans (hn.1.symm.trans hl.1.symm)) F.2.2.2.1 (F.2.2.2.2.1 _ hm.1) (F.2.2.2.2.1 _ hm.2.1) (F.2.2.2.2.1 _ hm.2.2.1) (F.2.2.2.2.1 _ hm.2.2.2) F.2.2.2.2.2.1.1 hW.1 (tk_ws_D G S M) hS a.toNat b.toNat 1 1 e0 e1 rfl rfl rfl ?_ ?_ ?_ ?_ ?_ (fun _ _ => rfl) hdep ?_ hd (fun H1 locs1 hP1 _ hS1 => ?_)
  · exact fun h => absurd ((i32_lt rs tk_r32_0).mp h) (by omega)
  · exact fun h => absurd ((i32_lt rd tk_r32_0).mp h) (by omega)
  · exact fun h => absurd ((i32_lt rz tk_r32_0).mp h) (by omega)
  · rw [i32_nat rs, i32_nat rz]; show _ ≤ N0; omega
  · rw [i32_nat rd, i32_nat rz]; show _ ≤ N1; omega
  · rw [tk_cw_eq]
    have e5 : nativeFrameWords "java/lang/System" "arraycopy" 5 = 7 := by decide
    rw [e5]
    show tk_cw st + (7 + 11) ≤ 40 * f.2.2.2.2.1; omega
  · rw [hset] at hP1
    exact kk p l e s m args below meth c H1 locs1 la Z F ⟨hP1, tk_mok_cp hW.2 hs1 hs0 rfl h1 h4⟩ hS1 hl hn hls (tk_okt (tk_okt (tk_okt (tk_okt (tk_okt hst))))) hR
end TkRows5
end
