-- ===== PART A: goes FIRST, ahead of the names: the tables' words, and 'selects' of the private methods out of them =====
/-- a private method of a class that the tables say can be made, by its rows of tables_1 -/
def lw_okq (q : MethodName × Nat) : Prop := (q.1.cls ≠ "java/lang/invoke/MethodHandle" ∧ q.1.cls ≠ "java/lang/invoke/VarHandle") ∧ Cond.instantiable q.1.cls q.2 ∈ tables_1 ∧ Cond.privateMethod q.1 ∈ tables_1 ∧ Cond.instanceMethod q.1 ∈ tables_1
theorem lw_p0 : lw_okq (⟨"TermIdeals", "noGenerator", "(II)Z"⟩, 11) := ⟨⟨by decide +kernel, by decide +kernel⟩, List.mem_of_getElem? (i := 15) (by decide +kernel), List.mem_of_getElem? (i := 266) (by decide +kernel), List.mem_of_getElem? (i := 267) (by decide +kernel)⟩
theorem lw_p1 : lw_okq (⟨"TermIdeals$Hull", "add", "(III)V"⟩, 4) := ⟨⟨by decide +kernel, by decide +kernel⟩, List.mem_of_getElem? (i := 146) (by decide +kernel), List.mem_of_getElem? (i := 320) (by decide +kernel), List.mem_of_getElem? (i := 321) (by decide +kernel)⟩
theorem lw_p2 : lw_okq (⟨"TermIdeals$Hull", "floorAt", "(I)I"⟩, 4) := ⟨⟨by decide +kernel, by decide +kernel⟩, List.mem_of_getElem? (i := 146) (by decide +kernel), List.mem_of_getElem? (i := 337) (by decide +kernel), List.mem_of_getElem? (i := 338) (by decide +kernel)⟩
theorem lw_p3 : lw_okq (⟨"TermIdeals$Text", "isDigit", "(I)Z"⟩, 2) := ⟨⟨by decide +kernel, by decide +kernel⟩, List.mem_of_getElem? (i := 112) (by decide +kernel), List.mem_of_getElem? (i := 391) (by decide +kernel), List.mem_of_getElem? (i := 392) (by decide +kernel)⟩
theorem lw_p4 : lw_okq (⟨"TermIdeals", "doClauses", "()I"⟩, 11) := ⟨⟨by decide +kernel, by decide +kernel⟩, List.mem_of_getElem? (i := 15) (by decide +kernel), List.mem_of_getElem? (i := 395) (by decide +kernel), List.mem_of_getElem? (i := 396) (by decide +kernel)⟩
theorem lw_p5 : lw_okq (⟨"TermIdeals", "doClause", "(I)I"⟩, 11) := ⟨⟨by decide +kernel, by decide +kernel⟩, List.mem_of_getElem? (i := 15) (by decide +kernel), List.mem_of_getElem? (i := 399) (by decide +kernel), List.mem_of_getElem? (i := 400) (by decide +kernel)⟩
theorem lw_p6 : lw_okq (⟨"TermIdeals", "closedness", "(LTermIdeals$Ideal;)I"⟩, 11) := ⟨⟨by decide +kernel, by decide +kernel⟩, List.mem_of_getElem? (i := 15) (by decide +kernel), List.mem_of_getElem? (i := 440) (by decide +kernel), List.mem_of_getElem? (i := 441) (by decide +kernel)⟩
theorem lw_p7 : lw_okq (⟨"TermIdeals", "countJumps", "(LTermIdeals$Ideal;)I"⟩, 11) := ⟨⟨by decide +kernel, by decide +kernel⟩, List.mem_of_getElem? (i := 15) (by decide +kernel), List.mem_of_getElem? (i := 449) (by decide +kernel), List.mem_of_getElem? (i := 450) (by decide +kernel)⟩
theorem lw_p8 : lw_okq (⟨"TermIdeals$JumpRow", "insert", "(II)V"⟩, 3) := ⟨⟨by decide +kernel, by decide +kernel⟩, List.mem_of_getElem? (i := 165) (by decide +kernel), List.mem_of_getElem? (i := 477) (by decide +kernel), List.mem_of_getElem? (i := 478) (by decide +kernel)⟩
theorem lw_p9 : lw_okq (⟨"TermIdeals$JumpRow", "insertAt", "(III)V"⟩, 3) := ⟨⟨by decide +kernel, by decide +kernel⟩, List.mem_of_getElem? (i := 165) (by decide +kernel), List.mem_of_getElem? (i := 485) (by decide +kernel), List.mem_of_getElem? (i := 486) (by decide +kernel)⟩
theorem lw_p10 : lw_okq (⟨"TermIdeals", "countBarred", "(LTermIdeals$Ideal;II)I"⟩, 11) := ⟨⟨by decide +kernel, by decide +kernel⟩, List.mem_of_getElem? (i := 15) (by decide +kernel), List.mem_of_getElem? (i := 554) (by decide +kernel), List.mem_of_getElem? (i := 555) (by decide +kernel)⟩
theorem lw_p11 : lw_okq (⟨"TermIdeals", "reduction", "()I"⟩, 11) := ⟨⟨by decide +kernel, by decide +kernel⟩, List.mem_of_getElem? (i := 15) (by decide +kernel), List.mem_of_getElem? (i := 595) (by decide +kernel), List.mem_of_getElem? (i := 596) (by decide +kernel)⟩
theorem lw_p12 : lw_okq (⟨"TermIdeals", "met", "()I"⟩, 11) := ⟨⟨by decide +kernel, by decide +kernel⟩, List.mem_of_getElem? (i := 15) (by decide +kernel), List.mem_of_getElem? (i := 599) (by decide +kernel), List.mem_of_getElem? (i := 600) (by decide +kernel)⟩
theorem lw_p13 : lw_okq (⟨"TermIdeals", "fitsWith", "(IIII)Z"⟩, 11) := ⟨⟨by decide +kernel, by decide +kernel⟩, List.mem_of_getElem? (i := 15) (by decide +kernel), List.mem_of_getElem? (i := 623) (by decide +kernel), List.mem_of_getElem? (i := 624) (by decide +kernel)⟩
theorem lw_p14 : lw_okq (⟨"TermIdeals", "isAsSeen", "(LTermIdeals$Ideal;)Z"⟩, 11) := ⟨⟨by decide +kernel, by decide +kernel⟩, List.mem_of_getElem? (i := 15) (by decide +kernel), List.mem_of_getElem? (i := 627) (by decide +kernel), List.mem_of_getElem? (i := 628) (by decide +kernel)⟩
theorem lw_p15 : lw_okq (⟨"TermIdeals", "happen", "(II)V"⟩, 11) := ⟨⟨by decide +kernel, by decide +kernel⟩, List.mem_of_getElem? (i := 15) (by decide +kernel), List.mem_of_getElem? (i := 675) (by decide +kernel), List.mem_of_getElem? (i := 676) (by decide +kernel)⟩
def lw_privs_1 : List (MethodName × Nat) := [(⟨"TermIdeals", "noGenerator", "(II)Z"⟩, 11), (⟨"TermIdeals$Hull", "add", "(III)V"⟩, 4), (⟨"TermIdeals$Hull", "floorAt", "(I)I"⟩, 4), (⟨"TermIdeals$Text", "isDigit", "(I)Z"⟩, 2), (⟨"TermIdeals", "doClauses", "()I"⟩, 11), (⟨"TermIdeals", "doClause", "(I)I"⟩, 11), (⟨"TermIdeals", "closedness", "(LTermIdeals$Ideal;)I"⟩, 11), (⟨"TermIdeals", "countJumps", "(LTermIdeals$Ideal;)I"⟩, 11), (⟨"TermIdeals$JumpRow", "insert", "(II)V"⟩, 3), (⟨"TermIdeals$JumpRow", "insertAt", "(III)V"⟩, 3), (⟨"TermIdeals", "countBarred", "(LTermIdeals$Ideal;II)I"⟩, 11), (⟨"TermIdeals", "reduction", "()I"⟩, 11), (⟨"TermIdeals", "met", "()I"⟩, 11), (⟨"TermIdeals", "fitsWith", "(IIII)Z"⟩, 11), (⟨"TermIdeals", "isAsSeen", "(LTermIdeals$Ideal;)Z"⟩, 11), (⟨"TermIdeals", "happen", "(II)V"⟩, 11)]
theorem lw_r1 : ∀ q ∈ lw_privs_1, lw_okq q := List.forall_mem_cons.mpr ⟨lw_p0, List.forall_mem_cons.mpr ⟨lw_p1, List.forall_mem_cons.mpr ⟨lw_p2, List.forall_mem_cons.mpr ⟨lw_p3, List.forall_mem_cons.mpr ⟨lw_p4, List.forall_mem_cons.mpr ⟨lw_p5, List.forall_mem_cons.mpr ⟨lw_p6, List.forall_mem_cons.mpr ⟨lw_p7, List.forall_mem_cons.mpr ⟨lw_p8, List.forall_mem_cons.mpr ⟨lw_p9, List.forall_mem_cons.mpr ⟨lw_p10, List.forall_mem_cons.mpr ⟨lw_p11, List.forall_mem_cons.mpr ⟨lw_p12, List.forall_mem_cons.mpr ⟨lw_p13, List.forall_mem_cons.mpr ⟨lw_p14, List.forall_mem_cons.mpr ⟨lw_p15, fun _ h => absurd h List.not_mem_nil⟩⟩⟩⟩⟩⟩⟩⟩⟩⟩⟩⟩⟩⟩⟩⟩
theorem lw_p16 : lw_okq (⟨"TermIdeals$Tape", "narrow", "(J)J"⟩, 3) := ⟨⟨by decide +kernel, by decide +kernel⟩, List.mem_of_getElem? (i := 127) (by decide +kernel), List.mem_of_getElem? (i := 765) (by decide +kernel), List.mem_of_getElem? (i := 766) (by decide +kernel)⟩
theorem lw_p17 : lw_okq (⟨"TermIdealsModel", "which", "(III)I"⟩, 46) := ⟨⟨by decide +kernel, by decide +kernel⟩, List.mem_of_getElem? (i := 783) (by decide +kernel), List.mem_of_getElem? (i := 942) (by decide +kernel), List.mem_of_getElem? (i := 943) (by decide +kernel)⟩
theorem lw_p18 : lw_okq (⟨"TermIdealsModel", "a", "(II)I"⟩, 46) := ⟨⟨by decide +kernel, by decide +kernel⟩, List.mem_of_getElem? (i := 783) (by decide +kernel), List.mem_of_getElem? (i := 946) (by decide +kernel), List.mem_of_getElem? (i := 947) (by decide +kernel)⟩
theorem lw_p19 : lw_okq (⟨"TermIdealsModel", "b", "(II)I"⟩, 46) := ⟨⟨by decide +kernel, by decide +kernel⟩, List.mem_of_getElem? (i := 783) (by decide +kernel), List.mem_of_getElem? (i := 950) (by decide +kernel), List.mem_of_getElem? (i := 951) (by decide +kernel)⟩
theorem lw_p20 : lw_okq (⟨"TermIdealsModel", "deed", "(I)V"⟩, 46) := ⟨⟨by decide +kernel, by decide +kernel⟩, List.mem_of_getElem? (i := 783) (by decide +kernel), List.mem_of_getElem? (i := 954) (by decide +kernel), List.mem_of_getElem? (i := 955) (by decide +kernel)⟩
theorem lw_p21 : lw_okq (⟨"TermIdealsModel", "comes", "(III)V"⟩, 46) := ⟨⟨by decide +kernel, by decide +kernel⟩, List.mem_of_getElem? (i := 783) (by decide +kernel), List.mem_of_getElem? (i := 958) (by decide +kernel), List.mem_of_getElem? (i := 959) (by decide +kernel)⟩
theorem lw_p22 : lw_okq (⟨"TermIdealsModel", "isGenerator", "(II)Z"⟩, 46) := ⟨⟨by decide +kernel, by decide +kernel⟩, List.mem_of_getElem? (i := 783) (by decide +kernel), List.mem_of_getElem? (i := 966) (by decide +kernel), List.mem_of_getElem? (i := 967) (by decide +kernel)⟩
theorem lw_p23 : lw_okq (⟨"TermIdealsModel", "goes", "(II)V"⟩, 46) := ⟨⟨by decide +kernel, by decide +kernel⟩, List.mem_of_getElem? (i := 783) (by decide +kernel), List.mem_of_getElem? (i := 970) (by decide +kernel), List.mem_of_getElem? (i := 971) (by decide +kernel)⟩
theorem lw_p24 : lw_okq (⟨"TermIdealsModel", "tellsFaces", "(I)V"⟩, 46) := ⟨⟨by decide +kernel, by decide +kernel⟩, List.mem_of_getElem? (i := 783) (by decide +kernel), List.mem_of_getElem? (i := 986) (by decide +kernel), List.mem_of_getElem? (i := 987) (by decide +kernel)⟩
theorem lw_p25 : lw_okq (⟨"TermIdealsModel", "comesFace", "(III)V"⟩, 46) := ⟨⟨by decide +kernel, by decide +kernel⟩, List.mem_of_getElem? (i := 783) (by decide +kernel), List.mem_of_getElem? (i := 990) (by decide +kernel), List.mem_of_getElem? (i := 991) (by decide +kernel)⟩
theorem lw_p26 : lw_okq (⟨"TermIdealsModel", "levelOf", "(III)I"⟩, 46) := ⟨⟨by decide +kernel, by decide +kernel⟩, List.mem_of_getElem? (i := 783) (by decide +kernel), List.mem_of_getElem? (i := 994) (by decide +kernel), List.mem_of_getElem? (i := 995) (by decide +kernel)⟩
theorem lw_p27 : lw_okq (⟨"TermIdealsModel", "metBy", "(IIII)I"⟩, 46) := ⟨⟨by decide +kernel, by decide +kernel⟩, List.mem_of_getElem? (i := 783) (by decide +kernel), List.mem_of_getElem? (i := 1002) (by decide +kernel), List.mem_of_getElem? (i := 1003) (by decide +kernel)⟩
theorem lw_p28 : lw_okq (⟨"TermIdealsModel", "isCorner", "(II)Z"⟩, 46) := ⟨⟨by decide +kernel, by decide +kernel⟩, List.mem_of_getElem? (i := 783) (by decide +kernel), List.mem_of_getElem? (i := 1006) (by decide +kernel), List.mem_of_getElem? (i := 1007) (by decide +kernel)⟩
theorem lw_p29 : lw_okq (⟨"TermIdealsModel", "isInHull", "(II)Z"⟩, 46) := ⟨⟨by decide +kernel, by decide +kernel⟩, List.mem_of_getElem? (i := 783) (by decide +kernel), List.mem_of_getElem? (i := 1010) (by decide +kernel), List.mem_of_getElem? (i := 1011) (by decide +kernel)⟩
theorem lw_p30 : lw_okq (⟨"TermIdealsModel", "clauses", "()I"⟩, 46) := ⟨⟨by decide +kernel, by decide +kernel⟩, List.mem_of_getElem? (i := 783) (by decide +kernel), List.mem_of_getElem? (i := 1027) (by decide +kernel), List.mem_of_getElem? (i := 1028) (by decide +kernel)⟩
theorem lw_p31 : lw_okq (⟨"TermIdealsModel", "clause", "()I"⟩, 46) := ⟨⟨by decide +kernel, by decide +kernel⟩, List.mem_of_getElem? (i := 783) (by decide +kernel), List.mem_of_getElem? (i := 1031) (by decide +kernel), List.mem_of_getElem? (i := 1032) (by decide +kernel)⟩
def lw_privs_2 : List (MethodName × Nat) := [(⟨"TermIdeals$Tape", "narrow", "(J)J"⟩, 3), (⟨"TermIdealsModel", "which", "(III)I"⟩, 46), (⟨"TermIdealsModel", "a", "(II)I"⟩, 46), (⟨"TermIdealsModel", "b", "(II)I"⟩, 46), (⟨"TermIdealsModel", "deed", "(I)V"⟩, 46), (⟨"TermIdealsModel", "comes", "(III)V"⟩, 46), (⟨"TermIdealsModel", "isGenerator", "(II)Z"⟩, 46), (⟨"TermIdealsModel", "goes", "(II)V"⟩, 46), (⟨"TermIdealsModel", "tellsFaces", "(I)V"⟩, 46), (⟨"TermIdealsModel", "comesFace", "(III)V"⟩, 46), (⟨"TermIdealsModel", "levelOf", "(III)I"⟩, 46), (⟨"TermIdealsModel", "metBy", "(IIII)I"⟩, 46), (⟨"TermIdealsModel", "isCorner", "(II)Z"⟩, 46), (⟨"TermIdealsModel", "isInHull", "(II)Z"⟩, 46), (⟨"TermIdealsModel", "clauses", "()I"⟩, 46), (⟨"TermIdealsModel", "clause", "()I"⟩, 46)]
theorem lw_r2 : ∀ q ∈ lw_privs_2, lw_okq q := List.forall_mem_cons.mpr ⟨lw_p16, List.forall_mem_cons.mpr ⟨lw_p17, List.forall_mem_cons.mpr ⟨lw_p18, List.forall_mem_cons.mpr ⟨lw_p19, List.forall_mem_cons.mpr ⟨lw_p20, List.forall_mem_cons.mpr ⟨lw_p21, List.forall_mem_cons.mpr ⟨lw_p22, List.forall_mem_cons.mpr ⟨lw_p23, List.forall_mem_cons.mpr ⟨lw_p24, List.forall_mem_cons.mpr ⟨lw_p25, List.forall_mem_cons.mpr ⟨lw_p26, List.forall_mem_cons.mpr ⟨lw_p27, List.forall_mem_cons.mpr ⟨lw_p28, List.forall_mem_cons.mpr ⟨lw_p29, List.forall_mem_cons.mpr ⟨lw_p30, List.forall_mem_cons.mpr ⟨lw_p31, fun _ h => absurd h List.not_mem_nil⟩⟩⟩⟩⟩⟩⟩⟩⟩⟩⟩⟩⟩⟩⟩⟩
theorem lw_p32 : lw_okq (⟨"TermIdealsModel", "isDone", "(I)Z"⟩, 46) := ⟨⟨by decide +kernel, by decide +kernel⟩, List.mem_of_getElem? (i := 783) (by decide +kernel), List.mem_of_getElem? (i := 1040) (by decide +kernel), List.mem_of_getElem? (i := 1041) (by decide +kernel)⟩
theorem lw_p33 : lw_okq (⟨"TermIdealsModel", "isLeast", "(II)Z"⟩, 46) := ⟨⟨by decide +kernel, by decide +kernel⟩, List.mem_of_getElem? (i := 783) (by decide +kernel), List.mem_of_getElem? (i := 1055) (by decide +kernel), List.mem_of_getElem? (i := 1056) (by decide +kernel)⟩
theorem lw_p34 : lw_okq (⟨"TermIdealsModel", "leastMany", "(I)I"⟩, 46) := ⟨⟨by decide +kernel, by decide +kernel⟩, List.mem_of_getElem? (i := 783) (by decide +kernel), List.mem_of_getElem? (i := 1064) (by decide +kernel), List.mem_of_getElem? (i := 1065) (by decide +kernel)⟩
theorem lw_p35 : lw_okq (⟨"TermIdealsModel", "asked", "(II)I"⟩, 46) := ⟨⟨by decide +kernel, by decide +kernel⟩, List.mem_of_getElem? (i := 783) (by decide +kernel), List.mem_of_getElem? (i := 1068) (by decide +kernel), List.mem_of_getElem? (i := 1069) (by decide +kernel)⟩
theorem lw_p36 : lw_okq (⟨"TermIdealsModel", "isClosed", "(I)Z"⟩, 46) := ⟨⟨by decide +kernel, by decide +kernel⟩, List.mem_of_getElem? (i := 783) (by decide +kernel), List.mem_of_getElem? (i := 1072) (by decide +kernel), List.mem_of_getElem? (i := 1073) (by decide +kernel)⟩
theorem lw_p37 : lw_okq (⟨"TermIdealsModel", "isWithin", "(III)Z"⟩, 46) := ⟨⟨by decide +kernel, by decide +kernel⟩, List.mem_of_getElem? (i := 783) (by decide +kernel), List.mem_of_getElem? (i := 1076) (by decide +kernel), List.mem_of_getElem? (i := 1077) (by decide +kernel)⟩
theorem lw_p38 : lw_okq (⟨"TermIdealsModel", "tellsJumps", "()V"⟩, 46) := ⟨⟨by decide +kernel, by decide +kernel⟩, List.mem_of_getElem? (i := 783) (by decide +kernel), List.mem_of_getElem? (i := 1080) (by decide +kernel), List.mem_of_getElem? (i := 1081) (by decide +kernel)⟩
theorem lw_p39 : lw_okq (⟨"TermIdealsModel", "jumpFace", "(II)I"⟩, 46) := ⟨⟨by decide +kernel, by decide +kernel⟩, List.mem_of_getElem? (i := 783) (by decide +kernel), List.mem_of_getElem? (i := 1084) (by decide +kernel), List.mem_of_getElem? (i := 1085) (by decide +kernel)⟩
theorem lw_p40 : lw_okq (⟨"TermIdealsModel", "heavy", "(III)I"⟩, 46) := ⟨⟨by decide +kernel, by decide +kernel⟩, List.mem_of_getElem? (i := 783) (by decide +kernel), List.mem_of_getElem? (i := 1088) (by decide +kernel), List.mem_of_getElem? (i := 1089) (by decide +kernel)⟩
theorem lw_p41 : lw_okq (⟨"TermIdealsModel", "comesJump", "(II)V"⟩, 46) := ⟨⟨by decide +kernel, by decide +kernel⟩, List.mem_of_getElem? (i := 783) (by decide +kernel), List.mem_of_getElem? (i := 1095) (by decide +kernel), List.mem_of_getElem? (i := 1096) (by decide +kernel)⟩
theorem lw_p42 : lw_okq (⟨"TermIdealsModel", "barring", "(IIII)I"⟩, 46) := ⟨⟨by decide +kernel, by decide +kernel⟩, List.mem_of_getElem? (i := 783) (by decide +kernel), List.mem_of_getElem? (i := 1115) (by decide +kernel), List.mem_of_getElem? (i := 1116) (by decide +kernel)⟩
theorem lw_p43 : lw_okq (⟨"TermIdealsModel", "lacking", "(III)I"⟩, 46) := ⟨⟨by decide +kernel, by decide +kernel⟩, List.mem_of_getElem? (i := 783) (by decide +kernel), List.mem_of_getElem? (i := 1136) (by decide +kernel), List.mem_of_getElem? (i := 1137) (by decide +kernel)⟩
theorem lw_p44 : lw_okq (⟨"TermIdealsModel", "heightOf", "(II)I"⟩, 46) := ⟨⟨by decide +kernel, by decide +kernel⟩, List.mem_of_getElem? (i := 783) (by decide +kernel), List.mem_of_getElem? (i := 1147) (by decide +kernel), List.mem_of_getElem? (i := 1148) (by decide +kernel)⟩
theorem lw_p45 : lw_okq (⟨"TermIdealsModel", "powers", "(II)V"⟩, 46) := ⟨⟨by decide +kernel, by decide +kernel⟩, List.mem_of_getElem? (i := 783) (by decide +kernel), List.mem_of_getElem? (i := 1151) (by decide +kernel), List.mem_of_getElem? (i := 1152) (by decide +kernel)⟩
theorem lw_p46 : lw_okq (⟨"TermIdealsModel", "begins", "()V"⟩, 46) := ⟨⟨by decide +kernel, by decide +kernel⟩, List.mem_of_getElem? (i := 783) (by decide +kernel), List.mem_of_getElem? (i := 1155) (by decide +kernel), List.mem_of_getElem? (i := 1156) (by decide +kernel)⟩
theorem lw_p47 : lw_okq (⟨"TermIdealsModel", "times", "(I)V"⟩, 46) := ⟨⟨by decide +kernel, by decide +kernel⟩, List.mem_of_getElem? (i := 783) (by decide +kernel), List.mem_of_getElem? (i := 1159) (by decide +kernel), List.mem_of_getElem? (i := 1160) (by decide +kernel)⟩
def lw_privs_3 : List (MethodName × Nat) := [(⟨"TermIdealsModel", "isDone", "(I)Z"⟩, 46), (⟨"TermIdealsModel", "isLeast", "(II)Z"⟩, 46), (⟨"TermIdealsModel", "leastMany", "(I)I"⟩, 46), (⟨"TermIdealsModel", "asked", "(II)I"⟩, 46), (⟨"TermIdealsModel", "isClosed", "(I)Z"⟩, 46), (⟨"TermIdealsModel", "isWithin", "(III)Z"⟩, 46), (⟨"TermIdealsModel", "tellsJumps", "()V"⟩, 46), (⟨"TermIdealsModel", "jumpFace", "(II)I"⟩, 46), (⟨"TermIdealsModel", "heavy", "(III)I"⟩, 46), (⟨"TermIdealsModel", "comesJump", "(II)V"⟩, 46), (⟨"TermIdealsModel", "barring", "(IIII)I"⟩, 46), (⟨"TermIdealsModel", "lacking", "(III)I"⟩, 46), (⟨"TermIdealsModel", "heightOf", "(II)I"⟩, 46), (⟨"TermIdealsModel", "powers", "(II)V"⟩, 46), (⟨"TermIdealsModel", "begins", "()V"⟩, 46), (⟨"TermIdealsModel", "times", "(I)V"⟩, 46)]
theorem lw_r3 : ∀ q ∈ lw_privs_3, lw_okq q := List.forall_mem_cons.mpr ⟨lw_p32, List.forall_mem_cons.mpr ⟨lw_p33, List.forall_mem_cons.mpr ⟨lw_p34, List.forall_mem_cons.mpr ⟨lw_p35, List.forall_mem_cons.mpr ⟨lw_p36, List.forall_mem_cons.mpr ⟨lw_p37, List.forall_mem_cons.mpr ⟨lw_p38, List.forall_mem_cons.mpr ⟨lw_p39, List.forall_mem_cons.mpr ⟨lw_p40, List.forall_mem_cons.mpr ⟨lw_p41, List.forall_mem_cons.mpr ⟨lw_p42, List.forall_mem_cons.mpr ⟨lw_p43, List.forall_mem_cons.mpr ⟨lw_p44, List.forall_mem_cons.mpr ⟨lw_p45, List.forall_mem_cons.mpr ⟨lw_p46, List.forall_mem_cons.mpr ⟨lw_p47, fun _ h => absurd h List.not_mem_nil⟩⟩⟩⟩⟩⟩⟩⟩⟩⟩⟩⟩⟩⟩⟩⟩
theorem lw_p48 : lw_okq (⟨"TermIdealsModel", "heightAt", "(I)I"⟩, 46) := ⟨⟨by decide +kernel, by decide +kernel⟩, List.mem_of_getElem? (i := 783) (by decide +kernel), List.mem_of_getElem? (i := 1163) (by decide +kernel), List.mem_of_getElem? (i := 1164) (by decide +kernel)⟩
theorem lw_p49 : lw_okq (⟨"TermIdealsModel", "settles", "()V"⟩, 46) := ⟨⟨by decide +kernel, by decide +kernel⟩, List.mem_of_getElem? (i := 783) (by decide +kernel), List.mem_of_getElem? (i := 1167) (by decide +kernel), List.mem_of_getElem? (i := 1168) (by decide +kernel)⟩
theorem lw_p50 : lw_okq (⟨"TermIdealsModel", "sumHeight", "(I)I"⟩, 46) := ⟨⟨by decide +kernel, by decide +kernel⟩, List.mem_of_getElem? (i := 783) (by decide +kernel), List.mem_of_getElem? (i := 1171) (by decide +kernel), List.mem_of_getElem? (i := 1172) (by decide +kernel)⟩
theorem lw_p51 : lw_okq (⟨"TermIdealsModel", "isReduction", "()Z"⟩, 46) := ⟨⟨by decide +kernel, by decide +kernel⟩, List.mem_of_getElem? (i := 783) (by decide +kernel), List.mem_of_getElem? (i := 1179) (by decide +kernel), List.mem_of_getElem? (i := 1180) (by decide +kernel)⟩
theorem lw_p52 : lw_okq (⟨"TermIdealsModel", "isMetBy", "(I)Z"⟩, 46) := ⟨⟨by decide +kernel, by decide +kernel⟩, List.mem_of_getElem? (i := 783) (by decide +kernel), List.mem_of_getElem? (i := 1183) (by decide +kernel), List.mem_of_getElem? (i := 1184) (by decide +kernel)⟩
theorem lw_p53 : lw_okq (⟨"TermIdealsModel", "isSeen", "()Z"⟩, 46) := ⟨⟨by decide +kernel, by decide +kernel⟩, List.mem_of_getElem? (i := 783) (by decide +kernel), List.mem_of_getElem? (i := 1195) (by decide +kernel), List.mem_of_getElem? (i := 1196) (by decide +kernel)⟩
theorem lw_p54 : lw_okq (⟨"TermIdealsModel", "likens", "(II)V"⟩, 46) := ⟨⟨by decide +kernel, by decide +kernel⟩, List.mem_of_getElem? (i := 783) (by decide +kernel), List.mem_of_getElem? (i := 1217) (by decide +kernel), List.mem_of_getElem? (i := 1218) (by decide +kernel)⟩
theorem lw_p55 : lw_okq (⟨"TermIdealsModel", "happens", "(II)V"⟩, 46) := ⟨⟨by decide +kernel, by decide +kernel⟩, List.mem_of_getElem? (i := 783) (by decide +kernel), List.mem_of_getElem? (i := 1221) (by decide +kernel), List.mem_of_getElem? (i := 1222) (by decide +kernel)⟩
theorem lw_p56 : lw_okq (⟨"TermIdealsModel", "lessens", "(I)V"⟩, 46) := ⟨⟨by decide +kernel, by decide +kernel⟩, List.mem_of_getElem? (i := 783) (by decide +kernel), List.mem_of_getElem? (i := 1225) (by decide +kernel), List.mem_of_getElem? (i := 1226) (by decide +kernel)⟩
def lw_privs_4 : List (MethodName × Nat) := [(⟨"TermIdealsModel", "heightAt", "(I)I"⟩, 46), (⟨"TermIdealsModel", "settles", "()V"⟩, 46), (⟨"TermIdealsModel", "sumHeight", "(I)I"⟩, 46), (⟨"TermIdealsModel", "isReduction", "()Z"⟩, 46), (⟨"TermIdealsModel", "isMetBy", "(I)Z"⟩, 46), (⟨"TermIdealsModel", "isSeen", "()Z"⟩, 46), (⟨"TermIdealsModel", "likens", "(II)V"⟩, 46), (⟨"TermIdealsModel", "happens", "(II)V"⟩, 46), (⟨"TermIdealsModel", "lessens", "(I)V"⟩, 46)]
theorem lw_r4 : ∀ q ∈ lw_privs_4, lw_okq q := List.forall_mem_cons.mpr ⟨lw_p48, List.forall_mem_cons.mpr ⟨lw_p49, List.forall_mem_cons.mpr ⟨lw_p50, List.forall_mem_cons.mpr ⟨lw_p51, List.forall_mem_cons.mpr ⟨lw_p52, List.forall_mem_cons.mpr ⟨lw_p53, List.forall_mem_cons.mpr ⟨lw_p54, List.forall_mem_cons.mpr ⟨lw_p55, List.forall_mem_cons.mpr ⟨lw_p56, fun _ h => absurd h List.not_mem_nil⟩⟩⟩⟩⟩⟩⟩⟩⟩
def lw_privs : List (MethodName × Nat) := lw_privs_1 ++ (lw_privs_2 ++ (lw_privs_3 ++ (lw_privs_4)))
def lw_tbl : List Cond := k2_sels lw_privs ++ tables_1
theorem lw_privs_ok : ∀ q ∈ lw_privs, lw_okq q := by
  show ∀ q ∈ lw_privs_1 ++ (lw_privs_2 ++ (lw_privs_3 ++ (lw_privs_4))), lw_okq q
  exact List.forall_mem_append.mpr ⟨lw_r1, List.forall_mem_append.mpr ⟨lw_r2, List.forall_mem_append.mpr ⟨lw_r3, lw_r4⟩⟩⟩
def RX0 : String := "TermIdeals$Deeds"
def TX0 : u_T := fun k => match k with
  | 0 => ("TermIdeals$Deeds", "before", "[LTermIdeals$Ideal;", true)
  | 1 => ("TermIdeals$Deeds", "whose", "[I", true)
  | 2 => ("TermIdeals$Deeds", "next", "I", false)
  | _ => ("TermIdeals$Deeds", "size", "I", false)
def tyX0 : Nat → FieldType := fun k => match k with
  | 0 => .array (.object "TermIdeals$Ideal")
  | 1 => .array .int
  | 2 => .int
  | _ => .int
theorem nmX0 : ∀ a, a < 4 → ∀ b, b < 4 → a ≠ b → (TX0 a).2.1 ≠ (TX0 b).2.1 := by decide +kernel
theorem tyX0_ok : ∀ k, k < 4 → parseFieldDescriptor (TX0 k).2.2.1 = some (tyX0 k) := by decide +kernel
abbrev cX0_init : ByteArray := prog_2_method_1_code
def yX0_init : MethodName := ⟨RX0, "<init>", "()V"⟩
abbrev cX0_size : ByteArray := prog_2_method_2_code
def yX0_size : MethodName := ⟨RX0, "size", "()I"⟩
abbrev cX0_keep : ByteArray := prog_2_method_3_code
def yX0_keep : MethodName := ⟨RX0, "keep", "(ILTermIdeals$Ideal;)V"⟩
abbrev cX0_takeBack : ByteArray := prog_2_method_4_code
def yX0_takeBack : MethodName := ⟨RX0, "takeBack", "(LTermIdeals$Told;)V"⟩
abbrev cX0_forget : ByteArray := prog_2_method_5_code
def yX0_forget : MethodName := ⟨RX0, "forget", "()V"⟩
def RX1 : String := "TermIdeals$Heights"
def TX1 : u_T := fun k => match k with
  | _ => ("TermIdeals$Heights", "row", "[I", true)
def tyX1 : Nat → FieldType := fun k => match k with
  | _ => .array .int
theorem nmX1 : ∀ a, a < 1 → ∀ b, b < 1 → a ≠ b → (TX1 a).2.1 ≠ (TX1 b).2.1 := by decide +kernel
theorem tyX1_ok : ∀ k, k < 1 → parseFieldDescriptor (TX1 k).2.2.1 = some (tyX1 k) := by decide +kernel
abbrev cX1_init : ByteArray := prog_3_method_1_code
def yX1_init : MethodName := ⟨RX1, "<init>", "()V"⟩
abbrev cX1_ofAllTerms : ByteArray := prog_3_method_2_code
def yX1_ofAllTerms : MethodName := ⟨RX1, "ofAllTerms", "()V"⟩
abbrev cX1_multiply : ByteArray := prog_3_method_3_code
def yX1_multiply : MethodName := ⟨RX1, "multiply", "(LTermIdeals$Ideal;)V"⟩
abbrev cX1_at : ByteArray := prog_3_method_4_code
def yX1_at : MethodName := ⟨RX1, "at", "(I)I"⟩
abbrev cX1_isLike : ByteArray := prog_3_method_5_code
def yX1_isLike : MethodName := ⟨RX1, "isLike", "(LTermIdeals$Heights;)Z"⟩
def RX2 : String := "TermIdeals$Hull"
def TX2 : u_T := fun k => match k with
  | 0 => ("TermIdeals$Hull", "ss", "[I", true)
  | 1 => ("TermIdeals$Hull", "ts", "[I", true)
  | 2 => ("TermIdeals$Hull", "levels", "[I", true)
  | _ => ("TermIdeals$Hull", "size", "I", false)
def tyX2 : Nat → FieldType := fun k => match k with
  | 0 => .array .int
  | 1 => .array .int
  | 2 => .array .int
  | _ => .int
theorem nmX2 : ∀ a, a < 4 → ∀ b, b < 4 → a ≠ b → (TX2 a).2.1 ≠ (TX2 b).2.1 := by decide +kernel
theorem tyX2_ok : ∀ k, k < 4 → parseFieldDescriptor (TX2 k).2.2.1 = some (tyX2 k) := by decide +kernel
abbrev cX2_init : ByteArray := prog_4_method_1_code
def yX2_init : MethodName := ⟨RX2, "<init>", "()V"⟩
abbrev cX2_wrap : ByteArray := prog_4_method_2_code
def yX2_wrap : MethodName := ⟨RX2, "wrap", "(LTermIdeals$Ideal;)V"⟩
abbrev cX2_add : ByteArray := prog_4_method_3_code
def yX2_add : MethodName := ⟨RX2, "add", "(III)V"⟩
abbrev cX2_size : ByteArray := prog_4_method_4_code
def yX2_size : MethodName := ⟨RX2, "size", "()I"⟩
abbrev cX2_weightA : ByteArray := prog_4_method_5_code
def yX2_weightA : MethodName := ⟨RX2, "weightA", "(I)I"⟩
abbrev cX2_weightB : ByteArray := prog_4_method_6_code
def yX2_weightB : MethodName := ⟨RX2, "weightB", "(I)I"⟩
abbrev cX2_level : ByteArray := prog_4_method_7_code
def yX2_level : MethodName := ⟨RX2, "level", "(I)I"⟩
abbrev cX2_weigh : ByteArray := prog_4_method_8_code
def yX2_weigh : MethodName := ⟨RX2, "weigh", "(III)I"⟩
abbrev cX2_covers : ByteArray := prog_4_method_9_code
def yX2_covers : MethodName := ⟨RX2, "covers", "(II)Z"⟩
abbrev cX2_barring : ByteArray := prog_4_method_10_code
def yX2_barring : MethodName := ⟨RX2, "barring", "(IIII)I"⟩
abbrev cX2_tightest : ByteArray := prog_4_method_11_code
def yX2_tightest : MethodName := ⟨RX2, "tightest", "(II)I"⟩
abbrev cX2_floorAt : ByteArray := prog_4_method_12_code
def yX2_floorAt : MethodName := ⟨RX2, "floorAt", "(I)I"⟩
abbrev cX2_putCorners : ByteArray := prog_4_method_13_code
def yX2_putCorners : MethodName := ⟨RX2, "putCorners", "(LTermIdeals$Ideal;)I"⟩
def RX3 : String := "TermIdeals$Ideal"
def TX3 : u_T := fun k => match k with
  | 0 => ("TermIdeals$Ideal", "as", "[I", true)
  | 1 => ("TermIdeals$Ideal", "bs", "[I", true)
  | _ => ("TermIdeals$Ideal", "size", "I", false)
def tyX3 : Nat → FieldType := fun k => match k with
  | 0 => .array .int
  | 1 => .array .int
  | _ => .int
theorem nmX3 : ∀ a, a < 3 → ∀ b, b < 3 → a ≠ b → (TX3 a).2.1 ≠ (TX3 b).2.1 := by decide +kernel
theorem tyX3_ok : ∀ k, k < 3 → parseFieldDescriptor (TX3 k).2.2.1 = some (tyX3 k) := by decide +kernel
abbrev cX3_init : ByteArray := prog_5_method_1_code
def yX3_init : MethodName := ⟨RX3, "<init>", "()V"⟩
abbrev cX3_size : ByteArray := prog_5_method_2_code
def yX3_size : MethodName := ⟨RX3, "size", "()I"⟩
abbrev cX3_powerA : ByteArray := prog_5_method_3_code
def yX3_powerA : MethodName := ⟨RX3, "powerA", "(I)I"⟩
abbrev cX3_powerB : ByteArray := prog_5_method_4_code
def yX3_powerB : MethodName := ⟨RX3, "powerB", "(I)I"⟩
abbrev cX3_find : ByteArray := prog_5_method_5_code
def yX3_find : MethodName := ⟨RX3, "find", "(II)I"⟩
abbrev cX3_add : ByteArray := prog_5_method_6_code
def yX3_add : MethodName := ⟨RX3, "add", "(II)V"⟩
abbrev cX3_addIfNew : ByteArray := prog_5_method_7_code
def yX3_addIfNew : MethodName := ⟨RX3, "addIfNew", "(II)V"⟩
abbrev cX3_replace : ByteArray := prog_5_method_8_code
def yX3_replace : MethodName := ⟨RX3, "replace", "(III)V"⟩
abbrev cX3_remove : ByteArray := prog_5_method_9_code
def yX3_remove : MethodName := ⟨RX3, "remove", "(I)V"⟩
abbrev cX3_empty : ByteArray := prog_5_method_10_code
def yX3_empty : MethodName := ⟨RX3, "empty", "()V"⟩
abbrev cX3_copy : ByteArray := prog_5_method_11_code
def yX3_copy : MethodName := ⟨RX3, "copy", "(LTermIdeals$Ideal;)V"⟩
abbrev cX3_countUnknownTo : ByteArray := prog_5_method_12_code
def yX3_countUnknownTo : MethodName := ⟨RX3, "countUnknownTo", "(LTermIdeals$Ideal;)I"⟩
abbrev cX3_lessen : ByteArray := prog_5_method_13_code
def yX3_lessen : MethodName := ⟨RX3, "lessen", "(I)V"⟩
abbrev cX3_contains : ByteArray := prog_5_method_14_code
def yX3_contains : MethodName := ⟨RX3, "contains", "(II)Z"⟩
abbrev cX3_isLeast : ByteArray := prog_5_method_15_code
def yX3_isLeast : MethodName := ⟨RX3, "isLeast", "(I)Z"⟩
abbrev cX3_countLeast : ByteArray := prog_5_method_16_code
def yX3_countLeast : MethodName := ⟨RX3, "countLeast", "()I"⟩
abbrev cX3_lowestB : ByteArray := prog_5_method_17_code
def yX3_lowestB : MethodName := ⟨RX3, "lowestB", "(I)I"⟩
abbrev cX3_sumOfPowers : ByteArray := prog_5_method_18_code
def yX3_sumOfPowers : MethodName := ⟨RX3, "sumOfPowers", "()I"⟩
abbrev cX3_leastWeight : ByteArray := prog_5_method_19_code
def yX3_leastWeight : MethodName := ⟨RX3, "leastWeight", "(II)I"⟩
abbrev cX3_countOfWeight : ByteArray := prog_5_method_20_code
def yX3_countOfWeight : MethodName := ⟨RX3, "countOfWeight", "(III)I"⟩
def RX4 : String := "TermIdeals$JumpRow"
def TX4 : u_T := fun k => match k with
  | 0 => ("TermIdeals$JumpRow", "aboves", "[I", true)
  | 1 => ("TermIdeals$JumpRow", "belows", "[I", true)
  | _ => ("TermIdeals$JumpRow", "size", "I", false)
def tyX4 : Nat → FieldType := fun k => match k with
  | 0 => .array .int
  | 1 => .array .int
  | _ => .int
theorem nmX4 : ∀ a, a < 3 → ∀ b, b < 3 → a ≠ b → (TX4 a).2.1 ≠ (TX4 b).2.1 := by decide +kernel
theorem tyX4_ok : ∀ k, k < 3 → parseFieldDescriptor (TX4 k).2.2.1 = some (tyX4 k) := by decide +kernel
abbrev cX4_init : ByteArray := prog_6_method_1_code
def yX4_init : MethodName := ⟨RX4, "<init>", "()V"⟩
abbrev cX4_gather : ByteArray := prog_6_method_2_code
def yX4_gather : MethodName := ⟨RX4, "gather", "(LTermIdeals$Hull;)V"⟩
abbrev cX4_insert : ByteArray := prog_6_method_3_code
def yX4_insert : MethodName := ⟨RX4, "insert", "(II)V"⟩
abbrev cX4_insertAt : ByteArray := prog_6_method_4_code
def yX4_insertAt : MethodName := ⟨RX4, "insertAt", "(III)V"⟩
abbrev cX4_size : ByteArray := prog_6_method_5_code
def yX4_size : MethodName := ⟨RX4, "size", "()I"⟩
abbrev cX4_above : ByteArray := prog_6_method_6_code
def yX4_above : MethodName := ⟨RX4, "above", "(I)I"⟩
abbrev cX4_below : ByteArray := prog_6_method_7_code
def yX4_below : MethodName := ⟨RX4, "below", "(I)I"⟩
abbrev cX4_compare : ByteArray := prog_6_method_8_code
def yX4_compare : MethodName := ⟨RX4, "compare", "(III)I"⟩
def RX5 : String := "TermIdeals$Rows"
def TX5 : u_T := fun k => match k with
  | 0 => ("TermIdeals$Rows", "most", "I", true)
  | 1 => ("TermIdeals$Rows", "firsts", "[I", true)
  | 2 => ("TermIdeals$Rows", "seconds", "[I", true)
  | 3 => ("TermIdeals$Rows", "thirds", "[I", true)
  | _ => ("TermIdeals$Rows", "size", "I", false)
def tyX5 : Nat → FieldType := fun k => match k with
  | 0 => .int
  | 1 => .array .int
  | 2 => .array .int
  | 3 => .array .int
  | _ => .int
theorem nmX5 : ∀ a, a < 5 → ∀ b, b < 5 → a ≠ b → (TX5 a).2.1 ≠ (TX5 b).2.1 := by decide +kernel
theorem tyX5_ok : ∀ k, k < 5 → parseFieldDescriptor (TX5 k).2.2.1 = some (tyX5 k) := by decide +kernel
abbrev cX5_init : ByteArray := prog_7_method_1_code
def yX5_init : MethodName := ⟨RX5, "<init>", "(I)V"⟩
abbrev cX5_size : ByteArray := prog_7_method_2_code
def yX5_size : MethodName := ⟨RX5, "size", "()I"⟩
abbrev cX5_first : ByteArray := prog_7_method_3_code
def yX5_first : MethodName := ⟨RX5, "first", "(I)I"⟩
abbrev cX5_second : ByteArray := prog_7_method_4_code
def yX5_second : MethodName := ⟨RX5, "second", "(I)I"⟩
abbrev cX5_third : ByteArray := prog_7_method_5_code
def yX5_third : MethodName := ⟨RX5, "third", "(I)I"⟩
abbrev cX5_add : ByteArray := prog_7_method_6_code
def yX5_add : MethodName := ⟨RX5, "add", "(III)I"⟩
abbrev cX5_empty : ByteArray := prog_7_method_7_code
def yX5_empty : MethodName := ⟨RX5, "empty", "()V"⟩
abbrev cX5_copy : ByteArray := prog_7_method_8_code
def yX5_copy : MethodName := ⟨RX5, "copy", "(LTermIdeals$Rows;)V"⟩
def RX6 : String := "TermIdeals$Tape"
def TX6 : u_T := fun k => match k with
  | 0 => ("TermIdeals$Tape", "items", "[J", true)
  | 1 => ("TermIdeals$Tape", "sort", "I", false)
  | _ => ("TermIdeals$Tape", "size", "I", false)
def tyX6 : Nat → FieldType := fun k => match k with
  | 0 => .array .long
  | 1 => .int
  | _ => .int
theorem nmX6 : ∀ a, a < 3 → ∀ b, b < 3 → a ≠ b → (TX6 a).2.1 ≠ (TX6 b).2.1 := by decide +kernel
theorem tyX6_ok : ∀ k, k < 3 → parseFieldDescriptor (TX6 k).2.2.1 = some (tyX6 k) := by decide +kernel
abbrev cX6_init : ByteArray := prog_8_method_1_code
def yX6_init : MethodName := ⟨RX6, "<init>", "()V"⟩
abbrev cX6_become : ByteArray := prog_8_method_2_code
def yX6_become : MethodName := ⟨RX6, "become", "(II)V"⟩
abbrev cX6_isNothing : ByteArray := prog_8_method_3_code
def yX6_isNothing : MethodName := ⟨RX6, "isNothing", "()Z"⟩
abbrev cX6_sort : ByteArray := prog_8_method_4_code
def yX6_sort : MethodName := ⟨RX6, "sort", "()I"⟩
abbrev cX6_hasRange : ByteArray := prog_8_method_5_code
def yX6_hasRange : MethodName := ⟨RX6, "hasRange", "(JJ)Z"⟩
abbrev cX6_get : ByteArray := prog_8_method_6_code
def yX6_get : MethodName := ⟨RX6, "get", "(I)J"⟩
abbrev cX6_set : ByteArray := prog_8_method_7_code
def yX6_set : MethodName := ⟨RX6, "set", "(IJ)V"⟩
abbrev cX6_narrow : ByteArray := prog_8_method_8_code
def yX6_narrow : MethodName := ⟨RX6, "narrow", "(J)J"⟩
abbrev cX6_take : ByteArray := prog_8_method_9_code
def yX6_take : MethodName := ⟨RX6, "take", "(ILTermIdeals$Tape;II)V"⟩
def RX7 : String := "TermIdeals$Text"
def TX7 : u_T := fun k => match k with
  | 0 => ("TermIdeals$Text", "signs", "[B", true)
  | _ => ("TermIdeals$Text", "size", "I", false)
def tyX7 : Nat → FieldType := fun k => match k with
  | 0 => .array .byte
  | _ => .int
theorem nmX7 : ∀ a, a < 2 → ∀ b, b < 2 → a ≠ b → (TX7 a).2.1 ≠ (TX7 b).2.1 := by decide +kernel
theorem tyX7_ok : ∀ k, k < 2 → parseFieldDescriptor (TX7 k).2.2.1 = some (tyX7 k) := by decide +kernel
abbrev cX7_init : ByteArray := prog_9_method_1_code
def yX7_init : MethodName := ⟨RX7, "<init>", "()V"⟩
abbrev cX7_size : ByteArray := prog_9_method_2_code
def yX7_size : MethodName := ⟨RX7, "size", "()I"⟩
abbrev cX7_isFull : ByteArray := prog_9_method_3_code
def yX7_isFull : MethodName := ⟨RX7, "isFull", "()Z"⟩
abbrev cX7_add : ByteArray := prog_9_method_4_code
def yX7_add : MethodName := ⟨RX7, "add", "(I)V"⟩
abbrev cX7_empty : ByteArray := prog_9_method_5_code
def yX7_empty : MethodName := ⟨RX7, "empty", "()V"⟩
abbrev cX7_signAt : ByteArray := prog_9_method_6_code
def yX7_signAt : MethodName := ⟨RX7, "signAt", "(I)I"⟩
abbrev cX7_digitAt : ByteArray := prog_9_method_7_code
def yX7_digitAt : MethodName := ⟨RX7, "digitAt", "(I)I"⟩
abbrev cX7_isDigit : ByteArray := prog_9_method_8_code
def yX7_isDigit : MethodName := ⟨RX7, "isDigit", "(I)Z"⟩
abbrev cX7_clauseLength : ByteArray := prog_9_method_9_code
def yX7_clauseLength : MethodName := ⟨RX7, "clauseLength", "(I)I"⟩
abbrev cX7_faultPlace : ByteArray := prog_9_method_10_code
def yX7_faultPlace : MethodName := ⟨RX7, "faultPlace", "()I"⟩
def RX8 : String := "TermIdeals$Told"
def TX8 : u_T := fun k => match k with
  | 0 => ("TermIdeals$Told", "zero", "LTermIdeals$Ideal;", true)
  | 1 => ("TermIdeals$Told", "one", "LTermIdeals$Ideal;", true)
  | 2 => ("TermIdeals$Told", "seen", "LTermIdeals$Rows;", true)
  | 3 => ("TermIdeals$Told", "events", "LTermIdeals$Rows;", true)
  | _ => ("TermIdeals$Told", "book", "LTermIdeals$Rows;", true)
def tyX8 : Nat → FieldType := fun k => match k with
  | 0 => .object "TermIdeals$Ideal"
  | 1 => .object "TermIdeals$Ideal"
  | 2 => .object "TermIdeals$Rows"
  | 3 => .object "TermIdeals$Rows"
  | _ => .object "TermIdeals$Rows"
theorem nmX8 : ∀ a, a < 5 → ∀ b, b < 5 → a ≠ b → (TX8 a).2.1 ≠ (TX8 b).2.1 := by decide +kernel
theorem tyX8_ok : ∀ k, k < 5 → parseFieldDescriptor (TX8 k).2.2.1 = some (tyX8 k) := by decide +kernel
abbrev cX8_init : ByteArray := prog_10_method_1_code
def yX8_init : MethodName := ⟨RX8, "<init>", "()V"⟩
abbrev cX8_ideal : ByteArray := prog_10_method_2_code
def yX8_ideal : MethodName := ⟨RX8, "ideal", "(I)LTermIdeals$Ideal;"⟩
abbrev cX8_countGenerators : ByteArray := prog_10_method_3_code
def yX8_countGenerators : MethodName := ⟨RX8, "countGenerators", "()I"⟩
abbrev cX8_copy : ByteArray := prog_10_method_4_code
def yX8_copy : MethodName := ⟨RX8, "copy", "(LTermIdeals$Told;)V"⟩
def RX9 : String := "TermIdeals"
def TX9 : u_T := fun k => match k with
  | 0 => ("TermIdeals", "now", "LTermIdeals$Told;", true)
  | 1 => ("TermIdeals", "image", "LTermIdeals$Told;", true)
  | 2 => ("TermIdeals", "imageTaken", "Z", false)
  | 3 => ("TermIdeals", "deeds", "LTermIdeals$Deeds;", true)
  | 4 => ("TermIdeals", "text", "LTermIdeals$Text;", true)
  | 5 => ("TermIdeals", "tapes", "[LTermIdeals$Tape;", true)
  | 6 => ("TermIdeals", "trial", "LTermIdeals$Ideal;", true)
  | 7 => ("TermIdeals", "hull", "LTermIdeals$Hull;", true)
  | 8 => ("TermIdeals", "jumpRow", "LTermIdeals$JumpRow;", true)
  | 9 => ("TermIdeals", "left", "LTermIdeals$Heights;", true)
  | _ => ("TermIdeals", "right", "LTermIdeals$Heights;", true)
def tyX9 : Nat → FieldType := fun k => match k with
  | 0 => .object "TermIdeals$Told"
  | 1 => .object "TermIdeals$Told"
  | 2 => .boolean
  | 3 => .object "TermIdeals$Deeds"
  | 4 => .object "TermIdeals$Text"
  | 5 => .array (.object "TermIdeals$Tape")
  | 6 => .object "TermIdeals$Ideal"
  | 7 => .object "TermIdeals$Hull"
  | 8 => .object "TermIdeals$JumpRow"
  | 9 => .object "TermIdeals$Heights"
  | _ => .object "TermIdeals$Heights"
theorem nmX9 : ∀ a, a < 11 → ∀ b, b < 11 → a ≠ b → (TX9 a).2.1 ≠ (TX9 b).2.1 := by decide +kernel
theorem tyX9_ok : ∀ k, k < 11 → parseFieldDescriptor (TX9 k).2.2.1 = some (tyX9 k) := by decide +kernel
abbrev cX9_init : ByteArray := prog_1_method_1_code
def yX9_init : MethodName := ⟨RX9, "<init>", "()V"⟩
abbrev cX9_generate : ByteArray := prog_1_method_2_code
def yX9_generate : MethodName := ⟨RX9, "generate", "(III)I"⟩
abbrev cX9_drop : ByteArray := prog_1_method_3_code
def yX9_drop : MethodName := ⟨RX9, "drop", "(II)I"⟩
abbrev cX9_clear : ByteArray := prog_1_method_4_code
def yX9_clear : MethodName := ⟨RX9, "clear", "(I)I"⟩
abbrev cX9_merge : ByteArray := prog_1_method_5_code
def yX9_merge : MethodName := ⟨RX9, "merge", "(I)I"⟩
abbrev cX9_close : ByteArray := prog_1_method_6_code
def yX9_close : MethodName := ⟨RX9, "close", "(I)I"⟩
abbrev cX9_back : ByteArray := prog_1_method_7_code
def yX9_back : MethodName := ⟨RX9, "back", "()I"⟩
abbrev cX9_feed : ByteArray := prog_1_method_8_code
def yX9_feed : MethodName := ⟨RX9, "feed", "(I)I"⟩
abbrev cX9_read : ByteArray := prog_1_method_9_code
def yX9_read : MethodName := ⟨RX9, "read", "()I"⟩
abbrev cX9_doClauses : ByteArray := prog_1_method_10_code
def yX9_doClauses : MethodName := ⟨RX9, "doClauses", "()I"⟩
abbrev cX9_doClause : ByteArray := prog_1_method_11_code
def yX9_doClause : MethodName := ⟨RX9, "doClause", "(I)I"⟩
abbrev cX9_of : ByteArray := prog_1_method_12_code
def yX9_of : MethodName := ⟨RX9, "of", "(III)I"⟩
abbrev cX9_told : ByteArray := prog_1_method_13_code
def yX9_told : MethodName := ⟨RX9, "told", "(II)I"⟩
abbrev cX9_in : ByteArray := prog_1_method_14_code
def yX9_in : MethodName := ⟨RX9, "in", "(IIII)I"⟩
abbrev cX9_face : ByteArray := prog_1_method_15_code
def yX9_face : MethodName := ⟨RX9, "face", "(III)I"⟩
abbrev cX9_held : ByteArray := prog_1_method_16_code
def yX9_held : MethodName := ⟨RX9, "held", "(IIIII)I"⟩
abbrev cX9_reason : ByteArray := prog_1_method_17_code
def yX9_reason : MethodName := ⟨RX9, "reason", "(IIIIII)I"⟩
abbrev cX9_jump : ByteArray := prog_1_method_18_code
def yX9_jump : MethodName := ⟨RX9, "jump", "(IIII)J"⟩
abbrev cX9_jumps : ByteArray := prog_1_method_19_code
def yX9_jumps : MethodName := ⟨RX9, "jumps", "(III)J"⟩
abbrev cX9_lacks : ByteArray := prog_1_method_20_code
def yX9_lacks : MethodName := ⟨RX9, "lacks", "(III)I"⟩
abbrev cX9_height : ByteArray := prog_1_method_21_code
def yX9_height : MethodName := ⟨RX9, "height", "(III)I"⟩
abbrev cX9_reduces : ByteArray := prog_1_method_22_code
def yX9_reduces : MethodName := ⟨RX9, "reduces", "(I)I"⟩
abbrev cX9_see : ByteArray := prog_1_method_23_code
def yX9_see : MethodName := ⟨RX9, "see", "(III)I"⟩
abbrev cX9_fits : ByteArray := prog_1_method_24_code
def yX9_fits : MethodName := ⟨RX9, "fits", "(IIII)I"⟩
abbrev cX9_odds : ByteArray := prog_1_method_25_code
def yX9_odds : MethodName := ⟨RX9, "odds", "(IIII)J"⟩
abbrev cX9_mean : ByteArray := prog_1_method_26_code
def yX9_mean : MethodName := ⟨RX9, "mean", "(II)J"⟩
abbrev cX9_event : ByteArray := prog_1_method_27_code
def yX9_event : MethodName := ⟨RX9, "event", "(II)I"⟩
abbrev cX9_after : ByteArray := prog_1_method_28_code
def yX9_after : MethodName := ⟨RX9, "after", "(I)I"⟩
abbrev cX9_book : ByteArray := prog_1_method_29_code
def yX9_book : MethodName := ⟨RX9, "book", "(II)I"⟩
abbrev cX9_looked : ByteArray := prog_1_method_30_code
def yX9_looked : MethodName := ⟨RX9, "looked", "()I"⟩
abbrev cX9_judge : ByteArray := prog_1_method_31_code
def yX9_judge : MethodName := ⟨RX9, "judge", "(III)I"⟩
abbrev cX9_image : ByteArray := prog_1_method_32_code
def yX9_image : MethodName := ⟨RX9, "image", "()I"⟩
abbrev cX9_undo : ByteArray := prog_1_method_33_code
def yX9_undo : MethodName := ⟨RX9, "undo", "()I"⟩
abbrev cX9_count : ByteArray := prog_1_method_34_code
def yX9_count : MethodName := ⟨RX9, "count", "(I)I"⟩
abbrev cX9_tape : ByteArray := prog_1_method_35_code
def yX9_tape : MethodName := ⟨RX9, "tape", "(III)I"⟩
abbrev cX9_item : ByteArray := prog_1_method_36_code
def yX9_item : MethodName := ⟨RX9, "item", "(IIJ)I"⟩
abbrev cX9_peek : ByteArray := prog_1_method_37_code
def yX9_peek : MethodName := ⟨RX9, "peek", "(II)J"⟩
abbrev cX9_shift : ByteArray := prog_1_method_38_code
def yX9_shift : MethodName := ⟨RX9, "shift", "(IIIII)I"⟩
abbrev cX9_noIdeal : ByteArray := prog_1_method_39_code
def yX9_noIdeal : MethodName := ⟨RX9, "noIdeal", "(I)Z"⟩
abbrev cX9_noGenerator : ByteArray := prog_1_method_40_code
def yX9_noGenerator : MethodName := ⟨RX9, "noGenerator", "(II)Z"⟩
abbrev cX9_badTerm : ByteArray := prog_1_method_41_code
def yX9_badTerm : MethodName := ⟨RX9, "badTerm", "(II)Z"⟩
abbrev cX9_badFraction : ByteArray := prog_1_method_42_code
def yX9_badFraction : MethodName := ⟨RX9, "badFraction", "(II)Z"⟩
abbrev cX9_badPart : ByteArray := prog_1_method_43_code
def yX9_badPart : MethodName := ⟨RX9, "badPart", "(I)Z"⟩
abbrev cX9_noHeightCode : ByteArray := prog_1_method_44_code
def yX9_noHeightCode : MethodName := ⟨RX9, "noHeightCode", "(I)Z"⟩
abbrev cX9_badEventNumber : ByteArray := prog_1_method_45_code
def yX9_badEventNumber : MethodName := ⟨RX9, "badEventNumber", "(II)Z"⟩
abbrev cX9_noTape : ByteArray := prog_1_method_46_code
def yX9_noTape : MethodName := ⟨RX9, "noTape", "(I)Z"⟩
abbrev cX9_countJumps : ByteArray := prog_1_method_47_code
def yX9_countJumps : MethodName := ⟨RX9, "countJumps", "(LTermIdeals$Ideal;)I"⟩
abbrev cX9_countBarred : ByteArray := prog_1_method_48_code
def yX9_countBarred : MethodName := ⟨RX9, "countBarred", "(LTermIdeals$Ideal;II)I"⟩
abbrev cX9_closedness : ByteArray := prog_1_method_49_code
def yX9_closedness : MethodName := ⟨RX9, "closedness", "(LTermIdeals$Ideal;)I"⟩
abbrev cX9_reduction : ByteArray := prog_1_method_50_code
def yX9_reduction : MethodName := ⟨RX9, "reduction", "()I"⟩
abbrev cX9_met : ByteArray := prog_1_method_51_code
def yX9_met : MethodName := ⟨RX9, "met", "()I"⟩
abbrev cX9_fitsWith : ByteArray := prog_1_method_52_code
def yX9_fitsWith : MethodName := ⟨RX9, "fitsWith", "(IIII)Z"⟩
abbrev cX9_isAsSeen : ByteArray := prog_1_method_53_code
def yX9_isAsSeen : MethodName := ⟨RX9, "isAsSeen", "(LTermIdeals$Ideal;)Z"⟩
abbrev cX9_happen : ByteArray := prog_1_method_54_code
def yX9_happen : MethodName := ⟨RX9, "happen", "(II)V"⟩
abbrev cX9_lowerOf : ByteArray := prog_1_method_55_code
def yX9_lowerOf : MethodName := ⟨RX9, "lowerOf", "(II)I"⟩
abbrev cX9_lowest : ByteArray := prog_1_method_56_code
def yX9_lowest : MethodName := ⟨RX9, "lowest", "(III)J"⟩
abbrev cX9_commonDivisor : ByteArray := prog_1_method_57_code
def yX9_commonDivisor : MethodName := ⟨RX9, "commonDivisor", "(II)I"⟩
def RX10 : String := "TermIdealsModel"
def TX10 : u_T := fun k => match k with
  | 0 => ("TermIdealsModel", "sizes", "[I", true)
  | 1 => ("TermIdealsModel", "as", "[I", true)
  | 2 => ("TermIdealsModel", "bs", "[I", true)
  | 3 => ("TermIdealsModel", "deeds", "I", false)
  | 4 => ("TermIdealsModel", "deedOf", "[I", true)
  | 5 => ("TermIdealsModel", "deedSizes", "[I", true)
  | 6 => ("TermIdealsModel", "deedAs", "[I", true)
  | 7 => ("TermIdealsModel", "deedBs", "[I", true)
  | 8 => ("TermIdealsModel", "text", "[I", true)
  | 9 => ("TermIdealsModel", "size", "I", false)
  | 10 => ("TermIdealsModel", "at", "I", false)
  | 11 => ("TermIdealsModel", "told", "[I", true)
  | 12 => ("TermIdealsModel", "faces", "I", false)
  | 13 => ("TermIdealsModel", "ss", "[I", true)
  | 14 => ("TermIdealsModel", "ts", "[I", true)
  | 15 => ("TermIdealsModel", "levels", "[I", true)
  | 16 => ("TermIdealsModel", "jumpMany", "I", false)
  | 17 => ("TermIdealsModel", "tops", "[I", true)
  | 18 => ("TermIdealsModel", "unders", "[I", true)
  | 19 => ("TermIdealsModel", "heights", "[I", true)
  | 20 => ("TermIdealsModel", "next", "[I", true)
  | 21 => ("TermIdealsModel", "kept", "[I", true)
  | 22 => ("TermIdealsModel", "seen", "I", false)
  | 23 => ("TermIdealsModel", "seenAt", "[I", true)
  | 24 => ("TermIdealsModel", "seenTop", "[I", true)
  | 25 => ("TermIdealsModel", "seenUnder", "[I", true)
  | 26 => ("TermIdealsModel", "events", "I", false)
  | 27 => ("TermIdealsModel", "eventWhats", "[I", true)
  | 28 => ("TermIdealsModel", "eventNs", "[I", true)
  | 29 => ("TermIdealsModel", "books", "I", false)
  | 30 => ("TermIdealsModel", "bookTerms", "[I", true)
  | 31 => ("TermIdealsModel", "bookIs", "[I", true)
  | 32 => ("TermIdealsModel", "sorts", "[I", true)
  | 33 => ("TermIdealsModel", "lengths", "[I", true)
  | 34 => ("TermIdealsModel", "items", "[J", true)
  | 35 => ("TermIdealsModel", "moved", "[J", true)
  | 36 => ("TermIdealsModel", "isKept", "Z", false)
  | 37 => ("TermIdealsModel", "keptSizes", "[I", true)
  | 38 => ("TermIdealsModel", "keptAs", "[I", true)
  | 39 => ("TermIdealsModel", "keptBs", "[I", true)
  | 40 => ("TermIdealsModel", "keptSeen", "I", false)
  | 41 => ("TermIdealsModel", "keptSeenRows", "[I", true)
  | 42 => ("TermIdealsModel", "keptEvents", "I", false)
  | 43 => ("TermIdealsModel", "keptEventRows", "[I", true)
  | 44 => ("TermIdealsModel", "keptBooks", "I", false)
  | _ => ("TermIdealsModel", "keptBookRows", "[I", true)
def tyX10 : Nat → FieldType := fun k => match k with
  | 0 => .array .int
  | 1 => .array .int
  | 2 => .array .int
  | 3 => .int
  | 4 => .array .int
  | 5 => .array .int
  | 6 => .array .int
  | 7 => .array .int
  | 8 => .array .int
  | 9 => .int
  | 10 => .int
  | 11 => .array .int
  | 12 => .int
  | 13 => .array .int
  | 14 => .array .int
  | 15 => .array .int
  | 16 => .int
  | 17 => .array .int
  | 18 => .array .int
  | 19 => .array .int
  | 20 => .array .int
  | 21 => .array .int
  | 22 => .int
  | 23 => .array .int
  | 24 => .array .int
  | 25 => .array .int
  | 26 => .int
  | 27 => .array .int
  | 28 => .array .int
  | 29 => .int
  | 30 => .array .int
  | 31 => .array .int
  | 32 => .array .int
  | 33 => .array .int
  | 34 => .array .long
  | 35 => .array .long
  | 36 => .boolean
  | 37 => .array .int
  | 38 => .array .int
  | 39 => .array .int
  | 40 => .int
  | 41 => .array .int
  | 42 => .int
  | 43 => .array .int
  | 44 => .int
  | _ => .array .int
theorem nmX10 : ∀ a, a < 46 → ∀ b, b < 46 → a ≠ b → (TX10 a).2.1 ≠ (TX10 b).2.1 := by decide +kernel
theorem tyX10_ok : ∀ k, k < 46 → parseFieldDescriptor (TX10 k).2.2.1 = some (tyX10 k) := by decide +kernel
abbrev cX10_init : ByteArray := prog_12_method_1_code
def yX10_init : MethodName := ⟨RX10, "<init>", "()V"⟩
abbrev cX10_isFrom : ByteArray := prog_12_method_2_code
def yX10_isFrom : MethodName := ⟨RX10, "isFrom", "(JJJ)Z"⟩
abbrev cX10_isIdeal : ByteArray := prog_12_method_3_code
def yX10_isIdeal : MethodName := ⟨RX10, "isIdeal", "(I)Z"⟩
abbrev cX10_isPower : ByteArray := prog_12_method_4_code
def yX10_isPower : MethodName := ⟨RX10, "isPower", "(I)Z"⟩
abbrev cX10_divisor : ByteArray := prog_12_method_5_code
def yX10_divisor : MethodName := ⟨RX10, "divisor", "(JJ)J"⟩
abbrev cX10_part : ByteArray := prog_12_method_6_code
def yX10_part : MethodName := ⟨RX10, "part", "(JJI)J"⟩
abbrev cX10_a : ByteArray := prog_12_method_7_code
def yX10_a : MethodName := ⟨RX10, "a", "(II)I"⟩
abbrev cX10_b : ByteArray := prog_12_method_8_code
def yX10_b : MethodName := ⟨RX10, "b", "(II)I"⟩
abbrev cX10_which : ByteArray := prog_12_method_9_code
def yX10_which : MethodName := ⟨RX10, "which", "(III)I"⟩
abbrev cX10_comes : ByteArray := prog_12_method_10_code
def yX10_comes : MethodName := ⟨RX10, "comes", "(III)V"⟩
abbrev cX10_goes : ByteArray := prog_12_method_11_code
def yX10_goes : MethodName := ⟨RX10, "goes", "(II)V"⟩
abbrev cX10_likens : ByteArray := prog_12_method_12_code
def yX10_likens : MethodName := ⟨RX10, "likens", "(II)V"⟩
abbrev cX10_deed : ByteArray := prog_12_method_13_code
def yX10_deed : MethodName := ⟨RX10, "deed", "(I)V"⟩
abbrev cX10_generate : ByteArray := prog_12_method_14_code
def yX10_generate : MethodName := ⟨RX10, "generate", "(III)I"⟩
abbrev cX10_isGenerator : ByteArray := prog_12_method_15_code
def yX10_isGenerator : MethodName := ⟨RX10, "isGenerator", "(II)Z"⟩
abbrev cX10_drop : ByteArray := prog_12_method_16_code
def yX10_drop : MethodName := ⟨RX10, "drop", "(II)I"⟩
abbrev cX10_clear : ByteArray := prog_12_method_17_code
def yX10_clear : MethodName := ⟨RX10, "clear", "(I)I"⟩
abbrev cX10_merge : ByteArray := prog_12_method_18_code
def yX10_merge : MethodName := ⟨RX10, "merge", "(I)I"⟩
abbrev cX10_isCorner : ByteArray := prog_12_method_19_code
def yX10_isCorner : MethodName := ⟨RX10, "isCorner", "(II)Z"⟩
abbrev cX10_close : ByteArray := prog_12_method_20_code
def yX10_close : MethodName := ⟨RX10, "close", "(I)I"⟩
abbrev cX10_back : ByteArray := prog_12_method_21_code
def yX10_back : MethodName := ⟨RX10, "back", "()I"⟩
abbrev cX10_feed : ByteArray := prog_12_method_22_code
def yX10_feed : MethodName := ⟨RX10, "feed", "(I)I"⟩
abbrev cX10_digitsOf : ByteArray := prog_12_method_23_code
def yX10_digitsOf : MethodName := ⟨RX10, "digitsOf", "(I)I"⟩
abbrev cX10_clause : ByteArray := prog_12_method_24_code
def yX10_clause : MethodName := ⟨RX10, "clause", "()I"⟩
abbrev cX10_isDone : ByteArray := prog_12_method_25_code
def yX10_isDone : MethodName := ⟨RX10, "isDone", "(I)Z"⟩
abbrev cX10_clauses : ByteArray := prog_12_method_26_code
def yX10_clauses : MethodName := ⟨RX10, "clauses", "()I"⟩
abbrev cX10_read : ByteArray := prog_12_method_27_code
def yX10_read : MethodName := ⟨RX10, "read", "()I"⟩
abbrev cX10_levelOf : ByteArray := prog_12_method_28_code
def yX10_levelOf : MethodName := ⟨RX10, "levelOf", "(III)I"⟩
abbrev cX10_metBy : ByteArray := prog_12_method_29_code
def yX10_metBy : MethodName := ⟨RX10, "metBy", "(IIII)I"⟩
abbrev cX10_comesFace : ByteArray := prog_12_method_30_code
def yX10_comesFace : MethodName := ⟨RX10, "comesFace", "(III)V"⟩
abbrev cX10_tellsFaces : ByteArray := prog_12_method_31_code
def yX10_tellsFaces : MethodName := ⟨RX10, "tellsFaces", "(I)V"⟩
abbrev cX10_isInHull : ByteArray := prog_12_method_32_code
def yX10_isInHull : MethodName := ⟨RX10, "isInHull", "(II)Z"⟩
abbrev cX10_isWithin : ByteArray := prog_12_method_33_code
def yX10_isWithin : MethodName := ⟨RX10, "isWithin", "(III)Z"⟩
abbrev cX10_isClosed : ByteArray := prog_12_method_34_code
def yX10_isClosed : MethodName := ⟨RX10, "isClosed", "(I)Z"⟩
abbrev cX10_isLeast : ByteArray := prog_12_method_35_code
def yX10_isLeast : MethodName := ⟨RX10, "isLeast", "(II)Z"⟩
abbrev cX10_leastMany : ByteArray := prog_12_method_36_code
def yX10_leastMany : MethodName := ⟨RX10, "leastMany", "(I)I"⟩
abbrev cX10_of : ByteArray := prog_12_method_37_code
def yX10_of : MethodName := ⟨RX10, "of", "(III)I"⟩
abbrev cX10_told : ByteArray := prog_12_method_38_code
def yX10_told : MethodName := ⟨RX10, "told", "(II)I"⟩
abbrev cX10_asked : ByteArray := prog_12_method_39_code
def yX10_asked : MethodName := ⟨RX10, "asked", "(II)I"⟩
abbrev cX10_in : ByteArray := prog_12_method_40_code
def yX10_in : MethodName := ⟨RX10, "in", "(IIII)I"⟩
abbrev cX10_face : ByteArray := prog_12_method_41_code
def yX10_face : MethodName := ⟨RX10, "face", "(III)I"⟩
abbrev cX10_heavy : ByteArray := prog_12_method_42_code
def yX10_heavy : MethodName := ⟨RX10, "heavy", "(III)I"⟩
abbrev cX10_barring : ByteArray := prog_12_method_43_code
def yX10_barring : MethodName := ⟨RX10, "barring", "(IIII)I"⟩
abbrev cX10_isFraction : ByteArray := prog_12_method_44_code
def yX10_isFraction : MethodName := ⟨RX10, "isFraction", "(II)Z"⟩
abbrev cX10_held : ByteArray := prog_12_method_45_code
def yX10_held : MethodName := ⟨RX10, "held", "(IIIII)I"⟩
abbrev cX10_reason : ByteArray := prog_12_method_46_code
def yX10_reason : MethodName := ⟨RX10, "reason", "(IIIIII)I"⟩
abbrev cX10_jumpFace : ByteArray := prog_12_method_47_code
def yX10_jumpFace : MethodName := ⟨RX10, "jumpFace", "(II)I"⟩
abbrev cX10_jump : ByteArray := prog_12_method_48_code
def yX10_jump : MethodName := ⟨RX10, "jump", "(IIII)J"⟩
abbrev cX10_comesJump : ByteArray := prog_12_method_49_code
def yX10_comesJump : MethodName := ⟨RX10, "comesJump", "(II)V"⟩
abbrev cX10_tellsJumps : ByteArray := prog_12_method_50_code
def yX10_tellsJumps : MethodName := ⟨RX10, "tellsJumps", "()V"⟩
abbrev cX10_jumps : ByteArray := prog_12_method_51_code
def yX10_jumps : MethodName := ⟨RX10, "jumps", "(III)J"⟩
abbrev cX10_lacking : ByteArray := prog_12_method_52_code
def yX10_lacking : MethodName := ⟨RX10, "lacking", "(III)I"⟩
abbrev cX10_lacks : ByteArray := prog_12_method_53_code
def yX10_lacks : MethodName := ⟨RX10, "lacks", "(III)I"⟩
abbrev cX10_begins : ByteArray := prog_12_method_54_code
def yX10_begins : MethodName := ⟨RX10, "begins", "()V"⟩
abbrev cX10_times : ByteArray := prog_12_method_55_code
def yX10_times : MethodName := ⟨RX10, "times", "(I)V"⟩
abbrev cX10_settles : ByteArray := prog_12_method_56_code
def yX10_settles : MethodName := ⟨RX10, "settles", "()V"⟩
abbrev cX10_powers : ByteArray := prog_12_method_57_code
def yX10_powers : MethodName := ⟨RX10, "powers", "(II)V"⟩
abbrev cX10_heightAt : ByteArray := prog_12_method_58_code
def yX10_heightAt : MethodName := ⟨RX10, "heightAt", "(I)I"⟩
abbrev cX10_heightOf : ByteArray := prog_12_method_59_code
def yX10_heightOf : MethodName := ⟨RX10, "heightOf", "(II)I"⟩
abbrev cX10_sumHeight : ByteArray := prog_12_method_60_code
def yX10_sumHeight : MethodName := ⟨RX10, "sumHeight", "(I)I"⟩
abbrev cX10_height : ByteArray := prog_12_method_61_code
def yX10_height : MethodName := ⟨RX10, "height", "(III)I"⟩
abbrev cX10_isReduction : ByteArray := prog_12_method_62_code
def yX10_isReduction : MethodName := ⟨RX10, "isReduction", "()Z"⟩
abbrev cX10_isMetBy : ByteArray := prog_12_method_63_code
def yX10_isMetBy : MethodName := ⟨RX10, "isMetBy", "(I)Z"⟩
abbrev cX10_reduces : ByteArray := prog_12_method_64_code
def yX10_reduces : MethodName := ⟨RX10, "reduces", "(I)I"⟩
abbrev cX10_see : ByteArray := prog_12_method_65_code
def yX10_see : MethodName := ⟨RX10, "see", "(III)I"⟩
abbrev cX10_isSeen : ByteArray := prog_12_method_66_code
def yX10_isSeen : MethodName := ⟨RX10, "isSeen", "()Z"⟩
abbrev cX10_fits : ByteArray := prog_12_method_67_code
def yX10_fits : MethodName := ⟨RX10, "fits", "(IIII)I"⟩
abbrev cX10_odds : ByteArray := prog_12_method_68_code
def yX10_odds : MethodName := ⟨RX10, "odds", "(IIII)J"⟩
abbrev cX10_mean : ByteArray := prog_12_method_69_code
def yX10_mean : MethodName := ⟨RX10, "mean", "(II)J"⟩
abbrev cX10_event : ByteArray := prog_12_method_70_code
def yX10_event : MethodName := ⟨RX10, "event", "(II)I"⟩
abbrev cX10_lessens : ByteArray := prog_12_method_71_code
def yX10_lessens : MethodName := ⟨RX10, "lessens", "(I)V"⟩
abbrev cX10_happens : ByteArray := prog_12_method_72_code
def yX10_happens : MethodName := ⟨RX10, "happens", "(II)V"⟩
abbrev cX10_after : ByteArray := prog_12_method_73_code
def yX10_after : MethodName := ⟨RX10, "after", "(I)I"⟩
abbrev cX10_book : ByteArray := prog_12_method_74_code
def yX10_book : MethodName := ⟨RX10, "book", "(II)I"⟩
abbrev cX10_looked : ByteArray := prog_12_method_75_code
def yX10_looked : MethodName := ⟨RX10, "looked", "()I"⟩
abbrev cX10_isTape : ByteArray := prog_12_method_76_code
def yX10_isTape : MethodName := ⟨RX10, "isTape", "(I)Z"⟩
abbrev cX10_judge : ByteArray := prog_12_method_77_code
def yX10_judge : MethodName := ⟨RX10, "judge", "(III)I"⟩
abbrev cX10_tape : ByteArray := prog_12_method_78_code
def yX10_tape : MethodName := ⟨RX10, "tape", "(III)I"⟩
abbrev cX10_asSort : ByteArray := prog_12_method_79_code
def yX10_asSort : MethodName := ⟨RX10, "asSort", "(IJ)J"⟩
abbrev cX10_item : ByteArray := prog_12_method_80_code
def yX10_item : MethodName := ⟨RX10, "item", "(IIJ)I"⟩
abbrev cX10_peek : ByteArray := prog_12_method_81_code
def yX10_peek : MethodName := ⟨RX10, "peek", "(II)J"⟩
abbrev cX10_shift : ByteArray := prog_12_method_82_code
def yX10_shift : MethodName := ⟨RX10, "shift", "(IIIII)I"⟩
abbrev cX10_image : ByteArray := prog_12_method_83_code
def yX10_image : MethodName := ⟨RX10, "image", "()I"⟩
abbrev cX10_undo : ByteArray := prog_12_method_84_code
def yX10_undo : MethodName := ⟨RX10, "undo", "()I"⟩
abbrev cX10_count : ByteArray := prog_12_method_85_code
def yX10_count : MethodName := ⟨RX10, "count", "(I)I"⟩
def RL : String := "TermIdealsLaw"
abbrev cL_law : ByteArray := code
def yL_law : MethodName := ⟨RL, "law", "([I)Z"⟩
abbrev vwCl : List vw_C := [(RX0, TX0, 4), (RX1, TX1, 1), (RX2, TX2, 4), (RX3, TX3, 3), (RX4, TX4, 3), (RX5, TX5, 5), (RX6, TX6, 3), (RX7, TX7, 2), (RX8, TX8, 5), (RX9, TX9, 11), (RX10, TX10, 46)]
