section
-- ===== PART A: goes FIRST, ahead of the names: the tables' words, and 'selects' of the private methods out of them =====
/-- a private method of a class that the tables say can be made, by its rows of tables_1 -/
def lw_okq (q : MethodName × Nat) : Prop := (q.1.cls ≠ "java/lang/invoke/MethodHandle" ∧ q.1.cls ≠ "java/lang/invoke/VarHandle") ∧ Cond.instantiable q.1.cls q.2 ∈ tables_1 ∧ Cond.privateMethod q.1 ∈ tables_1 ∧ Cond.instanceMethod q.1 ∈ tables_1
theorem lw_p0 : lw_okq (⟨"HoleTemplates$Symbols", "cutBrace", "(LHoleTemplates$Text;I)I"⟩, 9) := ⟨⟨by decide +kernel, by decide +kernel⟩, List.mem_of_getElem? (i := 84) (by decide +kernel), List.mem_of_getElem? (i := 253) (by decide +kernel), List.mem_of_getElem? (i := 254) (by decide +kernel)⟩
theorem lw_p1 : lw_okq (⟨"HoleTemplates$Symbols", "take", "(ICII)I"⟩, 9) := ⟨⟨by decide +kernel, by decide +kernel⟩, List.mem_of_getElem? (i := 84) (by decide +kernel), List.mem_of_getElem? (i := 257) (by decide +kernel), List.mem_of_getElem? (i := 258) (by decide +kernel)⟩
theorem lw_p2 : lw_okq (⟨"HoleTemplates$Symbols", "has", "(I)Z"⟩, 9) := ⟨⟨by decide +kernel, by decide +kernel⟩, List.mem_of_getElem? (i := 84) (by decide +kernel), List.mem_of_getElem? (i := 273) (by decide +kernel), List.mem_of_getElem? (i := 274) (by decide +kernel)⟩
theorem lw_p3 : lw_okq (⟨"HoleTemplates$Compilation", "readSymbol", "(I)I"⟩, 10) := ⟨⟨by decide +kernel, by decide +kernel⟩, List.mem_of_getElem? (i := 78) (by decide +kernel), List.mem_of_getElem? (i := 448) (by decide +kernel), List.mem_of_getElem? (i := 449) (by decide +kernel)⟩
theorem lw_p4 : lw_okq (⟨"HoleTemplates$Compilation", "readHole", "(I)Z"⟩, 10) := ⟨⟨by decide +kernel, by decide +kernel⟩, List.mem_of_getElem? (i := 78) (by decide +kernel), List.mem_of_getElem? (i := 452) (by decide +kernel), List.mem_of_getElem? (i := 453) (by decide +kernel)⟩
theorem lw_p5 : lw_okq (⟨"HoleTemplates$Context", "codeInValue", "()I"⟩, 5) := ⟨⟨by decide +kernel, by decide +kernel⟩, List.mem_of_getElem? (i := 121) (by decide +kernel), List.mem_of_getElem? (i := 460) (by decide +kernel), List.mem_of_getElem? (i := 461) (by decide +kernel)⟩
theorem lw_p6 : lw_okq (⟨"HoleTemplates$Compilation", "open", "(I)Z"⟩, 10) := ⟨⟨by decide +kernel, by decide +kernel⟩, List.mem_of_getElem? (i := 78) (by decide +kernel), List.mem_of_getElem? (i := 468) (by decide +kernel), List.mem_of_getElem? (i := 469) (by decide +kernel)⟩
theorem lw_p7 : lw_okq (⟨"HoleTemplates$Compilation", "turn", "(I)Z"⟩, 10) := ⟨⟨by decide +kernel, by decide +kernel⟩, List.mem_of_getElem? (i := 78) (by decide +kernel), List.mem_of_getElem? (i := 476) (by decide +kernel), List.mem_of_getElem? (i := 477) (by decide +kernel)⟩
theorem lw_p8 : lw_okq (⟨"HoleTemplates$Compilation", "close", "(I)Z"⟩, 10) := ⟨⟨by decide +kernel, by decide +kernel⟩, List.mem_of_getElem? (i := 78) (by decide +kernel), List.mem_of_getElem? (i := 488) (by decide +kernel), List.mem_of_getElem? (i := 489) (by decide +kernel)⟩
theorem lw_p9 : lw_okq (⟨"java/lang/Throwable", "fillInStackTrace", "(I)Ljava/lang/Throwable;"⟩, 6) := ⟨⟨by decide +kernel, by decide +kernel⟩, List.mem_of_getElem? (i := 570) (by decide +kernel), List.mem_of_getElem? (i := 568) (by decide +kernel), List.mem_of_getElem? (i := 569) (by decide +kernel)⟩
theorem lw_p10 : lw_okq (⟨"HoleTemplates$Writer", "span", "(LHoleTemplates$Symbols;LHoleTemplates$Items;III)V"⟩, 1) := ⟨⟨by decide +kernel, by decide +kernel⟩, List.mem_of_getElem? (i := 185) (by decide +kernel), List.mem_of_getElem? (i := 703) (by decide +kernel), List.mem_of_getElem? (i := 704) (by decide +kernel)⟩
theorem lw_p11 : lw_okq (⟨"HoleTemplates$Writer", "choice", "(LHoleTemplates$Symbols;LHoleTemplates$Items;II)V"⟩, 1) := ⟨⟨by decide +kernel, by decide +kernel⟩, List.mem_of_getElem? (i := 185) (by decide +kernel), List.mem_of_getElem? (i := 871) (by decide +kernel), List.mem_of_getElem? (i := 872) (by decide +kernel)⟩
theorem lw_p12 : lw_okq (⟨"HoleTemplates$Writer", "loop", "(LHoleTemplates$Symbols;LHoleTemplates$Items;II)V"⟩, 1) := ⟨⟨by decide +kernel, by decide +kernel⟩, List.mem_of_getElem? (i := 185) (by decide +kernel), List.mem_of_getElem? (i := 884) (by decide +kernel), List.mem_of_getElem? (i := 885) (by decide +kernel)⟩
theorem lw_p13 : lw_okq (⟨"HoleTemplatesModel", "build", "()Z"⟩, 37) := ⟨⟨by decide +kernel, by decide +kernel⟩, List.mem_of_getElem? (i := 900) (by decide +kernel), List.mem_of_getElem? (i := 1043) (by decide +kernel), List.mem_of_getElem? (i := 1044) (by decide +kernel)⟩
theorem lw_p14 : lw_okq (⟨"HoleTemplatesModel", "findSymbols", "()V"⟩, 37) := ⟨⟨by decide +kernel, by decide +kernel⟩, List.mem_of_getElem? (i := 900) (by decide +kernel), List.mem_of_getElem? (i := 1047) (by decide +kernel), List.mem_of_getElem? (i := 1048) (by decide +kernel)⟩
theorem lw_p15 : lw_okq (⟨"HoleTemplatesModel", "pushOpening", "(I)I"⟩, 37) := ⟨⟨by decide +kernel, by decide +kernel⟩, List.mem_of_getElem? (i := 900) (by decide +kernel), List.mem_of_getElem? (i := 1051) (by decide +kernel), List.mem_of_getElem? (i := 1052) (by decide +kernel)⟩
def lw_privs_1 : List (MethodName × Nat) := [(⟨"HoleTemplates$Symbols", "cutBrace", "(LHoleTemplates$Text;I)I"⟩, 9), (⟨"HoleTemplates$Symbols", "take", "(ICII)I"⟩, 9), (⟨"HoleTemplates$Symbols", "has", "(I)Z"⟩, 9), (⟨"HoleTemplates$Compilation", "readSymbol", "(I)I"⟩, 10), (⟨"HoleTemplates$Compilation", "readHole", "(I)Z"⟩, 10), (⟨"HoleTemplates$Context", "codeInValue", "()I"⟩, 5), (⟨"HoleTemplates$Compilation", "open", "(I)Z"⟩, 10), (⟨"HoleTemplates$Compilation", "turn", "(I)Z"⟩, 10), (⟨"HoleTemplates$Compilation", "close", "(I)Z"⟩, 10), (⟨"java/lang/Throwable", "fillInStackTrace", "(I)Ljava/lang/Throwable;"⟩, 6), (⟨"HoleTemplates$Writer", "span", "(LHoleTemplates$Symbols;LHoleTemplates$Items;III)V"⟩, 1), (⟨"HoleTemplates$Writer", "choice", "(LHoleTemplates$Symbols;LHoleTemplates$Items;II)V"⟩, 1), (⟨"HoleTemplates$Writer", "loop", "(LHoleTemplates$Symbols;LHoleTemplates$Items;II)V"⟩, 1), (⟨"HoleTemplatesModel", "build", "()Z"⟩, 37), (⟨"HoleTemplatesModel", "findSymbols", "()V"⟩, 37), (⟨"HoleTemplatesModel", "pushOpening", "(I)I"⟩, 37)]
theorem lw_r1 : ∀ q ∈ lw_privs_1, lw_okq q := List.forall_mem_cons.mpr ⟨lw_p0, List.forall_mem_cons.mpr ⟨lw_p1, List.forall_mem_cons.mpr ⟨lw_p2, List.forall_mem_cons.mpr ⟨lw_p3, List.forall_mem_cons.mpr ⟨lw_p4, List.forall_mem_cons.mpr ⟨lw_p5, List.forall_mem_cons.mpr ⟨lw_p6, List.forall_mem_cons.mpr ⟨lw_p7, List.forall_mem_cons.mpr ⟨lw_p8, List.forall_mem_cons.mpr ⟨lw_p9, List.forall_mem_cons.mpr ⟨lw_p10, List.forall_mem_cons.mpr ⟨lw_p11, List.forall_mem_cons.mpr ⟨lw_p12, List.forall_mem_cons.mpr ⟨lw_p13, List.forall_mem_cons.mpr ⟨lw_p14, List.forall_mem_cons.mpr ⟨lw_p15, fun _ h => absurd h List.not_mem_nil⟩⟩⟩⟩⟩⟩⟩⟩⟩⟩⟩⟩⟩⟩⟩⟩
theorem lw_p16 : lw_okq (⟨"HoleTemplatesModel", "at", "(I)C"⟩, 37) := ⟨⟨by decide +kernel, by decide +kernel⟩, List.mem_of_getElem? (i := 900) (by decide +kernel), List.mem_of_getElem? (i := 1055) (by decide +kernel), List.mem_of_getElem? (i := 1056) (by decide +kernel)⟩
theorem lw_p17 : lw_okq (⟨"HoleTemplatesModel", "push", "(ICII)I"⟩, 37) := ⟨⟨by decide +kernel, by decide +kernel⟩, List.mem_of_getElem? (i := 900) (by decide +kernel), List.mem_of_getElem? (i := 1059) (by decide +kernel), List.mem_of_getElem? (i := 1060) (by decide +kernel)⟩
theorem lw_p18 : lw_okq (⟨"HoleTemplatesModel", "go", "(I)V"⟩, 37) := ⟨⟨by decide +kernel, by decide +kernel⟩, List.mem_of_getElem? (i := 900) (by decide +kernel), List.mem_of_getElem? (i := 1066) (by decide +kernel), List.mem_of_getElem? (i := 1067) (by decide +kernel)⟩
theorem lw_p19 : lw_okq (⟨"HoleTemplatesModel", "piece", "(I)I"⟩, 37) := ⟨⟨by decide +kernel, by decide +kernel⟩, List.mem_of_getElem? (i := 900) (by decide +kernel), List.mem_of_getElem? (i := 1070) (by decide +kernel), List.mem_of_getElem? (i := 1071) (by decide +kernel)⟩
theorem lw_p20 : lw_okq (⟨"HoleTemplatesModel", "textPiece", "(I)I"⟩, 37) := ⟨⟨by decide +kernel, by decide +kernel⟩, List.mem_of_getElem? (i := 900) (by decide +kernel), List.mem_of_getElem? (i := 1074) (by decide +kernel), List.mem_of_getElem? (i := 1075) (by decide +kernel)⟩
theorem lw_p21 : lw_okq (⟨"HoleTemplatesModel", "ch", "(I)C"⟩, 37) := ⟨⟨by decide +kernel, by decide +kernel⟩, List.mem_of_getElem? (i := 900) (by decide +kernel), List.mem_of_getElem? (i := 1078) (by decide +kernel), List.mem_of_getElem? (i := 1079) (by decide +kernel)⟩
theorem lw_p22 : lw_okq (⟨"HoleTemplatesModel", "isAmpersand", "(I)Z"⟩, 37) := ⟨⟨by decide +kernel, by decide +kernel⟩, List.mem_of_getElem? (i := 900) (by decide +kernel), List.mem_of_getElem? (i := 1082) (by decide +kernel), List.mem_of_getElem? (i := 1083) (by decide +kernel)⟩
theorem lw_p23 : lw_okq (⟨"HoleTemplatesModel", "begins", "(IC)Z"⟩, 37) := ⟨⟨by decide +kernel, by decide +kernel⟩, List.mem_of_getElem? (i := 900) (by decide +kernel), List.mem_of_getElem? (i := 1092) (by decide +kernel), List.mem_of_getElem? (i := 1093) (by decide +kernel)⟩
theorem lw_p24 : lw_okq (⟨"HoleTemplatesModel", "lettersFrom", "(I)I"⟩, 37) := ⟨⟨by decide +kernel, by decide +kernel⟩, List.mem_of_getElem? (i := 900) (by decide +kernel), List.mem_of_getElem? (i := 1096) (by decide +kernel), List.mem_of_getElem? (i := 1097) (by decide +kernel)⟩
theorem lw_p25 : lw_okq (⟨"HoleTemplatesModel", "isScript", "(II)Z"⟩, 37) := ⟨⟨by decide +kernel, by decide +kernel⟩, List.mem_of_getElem? (i := 900) (by decide +kernel), List.mem_of_getElem? (i := 1103) (by decide +kernel), List.mem_of_getElem? (i := 1104) (by decide +kernel)⟩
theorem lw_p26 : lw_okq (⟨"HoleTemplatesModel", "spells", "(IIICCCCCC)Z"⟩, 37) := ⟨⟨by decide +kernel, by decide +kernel⟩, List.mem_of_getElem? (i := 900) (by decide +kernel), List.mem_of_getElem? (i := 1107) (by decide +kernel), List.mem_of_getElem? (i := 1108) (by decide +kernel)⟩
theorem lw_p27 : lw_okq (⟨"HoleTemplatesModel", "isStyle", "(II)Z"⟩, 37) := ⟨⟨by decide +kernel, by decide +kernel⟩, List.mem_of_getElem? (i := 900) (by decide +kernel), List.mem_of_getElem? (i := 1111) (by decide +kernel), List.mem_of_getElem? (i := 1112) (by decide +kernel)⟩
theorem lw_p28 : lw_okq (⟨"HoleTemplatesModel", "isTitle", "(II)Z"⟩, 37) := ⟨⟨by decide +kernel, by decide +kernel⟩, List.mem_of_getElem? (i := 900) (by decide +kernel), List.mem_of_getElem? (i := 1115) (by decide +kernel), List.mem_of_getElem? (i := 1116) (by decide +kernel)⟩
theorem lw_p29 : lw_okq (⟨"HoleTemplatesModel", "tagPiece", "(I)I"⟩, 37) := ⟨⟨by decide +kernel, by decide +kernel⟩, List.mem_of_getElem? (i := 900) (by decide +kernel), List.mem_of_getElem? (i := 1119) (by decide +kernel), List.mem_of_getElem? (i := 1120) (by decide +kernel)⟩
theorem lw_p30 : lw_okq (⟨"HoleTemplatesModel", "attribute", "(I)I"⟩, 37) := ⟨⟨by decide +kernel, by decide +kernel⟩, List.mem_of_getElem? (i := 900) (by decide +kernel), List.mem_of_getElem? (i := 1123) (by decide +kernel), List.mem_of_getElem? (i := 1124) (by decide +kernel)⟩
theorem lw_p31 : lw_okq (⟨"HoleTemplatesModel", "blanksFrom", "(I)I"⟩, 37) := ⟨⟨by decide +kernel, by decide +kernel⟩, List.mem_of_getElem? (i := 900) (by decide +kernel), List.mem_of_getElem? (i := 1127) (by decide +kernel), List.mem_of_getElem? (i := 1128) (by decide +kernel)⟩
def lw_privs_2 : List (MethodName × Nat) := [(⟨"HoleTemplatesModel", "at", "(I)C"⟩, 37), (⟨"HoleTemplatesModel", "push", "(ICII)I"⟩, 37), (⟨"HoleTemplatesModel", "go", "(I)V"⟩, 37), (⟨"HoleTemplatesModel", "piece", "(I)I"⟩, 37), (⟨"HoleTemplatesModel", "textPiece", "(I)I"⟩, 37), (⟨"HoleTemplatesModel", "ch", "(I)C"⟩, 37), (⟨"HoleTemplatesModel", "isAmpersand", "(I)Z"⟩, 37), (⟨"HoleTemplatesModel", "begins", "(IC)Z"⟩, 37), (⟨"HoleTemplatesModel", "lettersFrom", "(I)I"⟩, 37), (⟨"HoleTemplatesModel", "isScript", "(II)Z"⟩, 37), (⟨"HoleTemplatesModel", "spells", "(IIICCCCCC)Z"⟩, 37), (⟨"HoleTemplatesModel", "isStyle", "(II)Z"⟩, 37), (⟨"HoleTemplatesModel", "isTitle", "(II)Z"⟩, 37), (⟨"HoleTemplatesModel", "tagPiece", "(I)I"⟩, 37), (⟨"HoleTemplatesModel", "attribute", "(I)I"⟩, 37), (⟨"HoleTemplatesModel", "blanksFrom", "(I)I"⟩, 37)]
theorem lw_r2 : ∀ q ∈ lw_privs_2, lw_okq q := List.forall_mem_cons.mpr ⟨lw_p16, List.forall_mem_cons.mpr ⟨lw_p17, List.forall_mem_cons.mpr ⟨lw_p18, List.forall_mem_cons.mpr ⟨lw_p19, List.forall_mem_cons.mpr ⟨lw_p20, List.forall_mem_cons.mpr ⟨lw_p21, List.forall_mem_cons.mpr ⟨lw_p22, List.forall_mem_cons.mpr ⟨lw_p23, List.forall_mem_cons.mpr ⟨lw_p24, List.forall_mem_cons.mpr ⟨lw_p25, List.forall_mem_cons.mpr ⟨lw_p26, List.forall_mem_cons.mpr ⟨lw_p27, List.forall_mem_cons.mpr ⟨lw_p28, List.forall_mem_cons.mpr ⟨lw_p29, List.forall_mem_cons.mpr ⟨lw_p30, List.forall_mem_cons.mpr ⟨lw_p31, fun _ h => absurd h List.not_mem_nil⟩⟩⟩⟩⟩⟩⟩⟩⟩⟩⟩⟩⟩⟩⟩⟩
theorem lw_p32 : lw_okq (⟨"HoleTemplatesModel", "kindOf", "(II)I"⟩, 37) := ⟨⟨by decide +kernel, by decide +kernel⟩, List.mem_of_getElem? (i := 900) (by decide +kernel), List.mem_of_getElem? (i := 1131) (by decide +kernel), List.mem_of_getElem? (i := 1132) (by decide +kernel)⟩
theorem lw_p33 : lw_okq (⟨"HoleTemplatesModel", "valuePiece", "(I)I"⟩, 37) := ⟨⟨by decide +kernel, by decide +kernel⟩, List.mem_of_getElem? (i := 900) (by decide +kernel), List.mem_of_getElem? (i := 1135) (by decide +kernel), List.mem_of_getElem? (i := 1136) (by decide +kernel)⟩
theorem lw_p34 : lw_okq (⟨"HoleTemplatesModel", "urlPiece", "(I)I"⟩, 37) := ⟨⟨by decide +kernel, by decide +kernel⟩, List.mem_of_getElem? (i := 900) (by decide +kernel), List.mem_of_getElem? (i := 1139) (by decide +kernel), List.mem_of_getElem? (i := 1140) (by decide +kernel)⟩
theorem lw_p35 : lw_okq (⟨"HoleTemplatesModel", "codePiece", "(IZ)I"⟩, 37) := ⟨⟨by decide +kernel, by decide +kernel⟩, List.mem_of_getElem? (i := 900) (by decide +kernel), List.mem_of_getElem? (i := 1143) (by decide +kernel), List.mem_of_getElem? (i := 1144) (by decide +kernel)⟩
theorem lw_p36 : lw_okq (⟨"HoleTemplatesModel", "openPiece", "(IZ)I"⟩, 37) := ⟨⟨by decide +kernel, by decide +kernel⟩, List.mem_of_getElem? (i := 900) (by decide +kernel), List.mem_of_getElem? (i := 1147) (by decide +kernel), List.mem_of_getElem? (i := 1148) (by decide +kernel)⟩
theorem lw_p37 : lw_okq (⟨"HoleTemplatesModel", "stringPiece", "(I)I"⟩, 37) := ⟨⟨by decide +kernel, by decide +kernel⟩, List.mem_of_getElem? (i := 900) (by decide +kernel), List.mem_of_getElem? (i := 1151) (by decide +kernel), List.mem_of_getElem? (i := 1152) (by decide +kernel)⟩
theorem lw_p38 : lw_okq (⟨"HoleTemplatesModel", "titlePiece", "(I)I"⟩, 37) := ⟨⟨by decide +kernel, by decide +kernel⟩, List.mem_of_getElem? (i := 900) (by decide +kernel), List.mem_of_getElem? (i := 1155) (by decide +kernel), List.mem_of_getElem? (i := 1156) (by decide +kernel)⟩
theorem lw_p39 : lw_okq (⟨"HoleTemplatesModel", "commentPiece", "(I)I"⟩, 37) := ⟨⟨by decide +kernel, by decide +kernel⟩, List.mem_of_getElem? (i := 900) (by decide +kernel), List.mem_of_getElem? (i := 1159) (by decide +kernel), List.mem_of_getElem? (i := 1160) (by decide +kernel)⟩
theorem lw_p40 : lw_okq (⟨"HoleTemplatesModel", "insidePiece", "(IZ)I"⟩, 37) := ⟨⟨by decide +kernel, by decide +kernel⟩, List.mem_of_getElem? (i := 900) (by decide +kernel), List.mem_of_getElem? (i := 1163) (by decide +kernel), List.mem_of_getElem? (i := 1164) (by decide +kernel)⟩
theorem lw_p41 : lw_okq (⟨"HoleTemplatesModel", "readSymbol", "(I)Z"⟩, 37) := ⟨⟨by decide +kernel, by decide +kernel⟩, List.mem_of_getElem? (i := 900) (by decide +kernel), List.mem_of_getElem? (i := 1167) (by decide +kernel), List.mem_of_getElem? (i := 1168) (by decide +kernel)⟩
theorem lw_p42 : lw_okq (⟨"HoleTemplatesModel", "readHole", "(I)Z"⟩, 37) := ⟨⟨by decide +kernel, by decide +kernel⟩, List.mem_of_getElem? (i := 900) (by decide +kernel), List.mem_of_getElem? (i := 1171) (by decide +kernel), List.mem_of_getElem? (i := 1172) (by decide +kernel)⟩
theorem lw_p43 : lw_okq (⟨"HoleTemplatesModel", "holeContext", "()I"⟩, 37) := ⟨⟨by decide +kernel, by decide +kernel⟩, List.mem_of_getElem? (i := 900) (by decide +kernel), List.mem_of_getElem? (i := 1175) (by decide +kernel), List.mem_of_getElem? (i := 1176) (by decide +kernel)⟩
theorem lw_p44 : lw_okq (⟨"HoleTemplatesModel", "readOpening", "(I)Z"⟩, 37) := ⟨⟨by decide +kernel, by decide +kernel⟩, List.mem_of_getElem? (i := 900) (by decide +kernel), List.mem_of_getElem? (i := 1179) (by decide +kernel), List.mem_of_getElem? (i := 1180) (by decide +kernel)⟩
theorem lw_p45 : lw_okq (⟨"HoleTemplatesModel", "state", "()I"⟩, 37) := ⟨⟨by decide +kernel, by decide +kernel⟩, List.mem_of_getElem? (i := 900) (by decide +kernel), List.mem_of_getElem? (i := 1183) (by decide +kernel), List.mem_of_getElem? (i := 1184) (by decide +kernel)⟩
theorem lw_p46 : lw_okq (⟨"HoleTemplatesModel", "readOtherwise", "(I)Z"⟩, 37) := ⟨⟨by decide +kernel, by decide +kernel⟩, List.mem_of_getElem? (i := 900) (by decide +kernel), List.mem_of_getElem? (i := 1187) (by decide +kernel), List.mem_of_getElem? (i := 1188) (by decide +kernel)⟩
theorem lw_p47 : lw_okq (⟨"HoleTemplatesModel", "restore", "(I)V"⟩, 37) := ⟨⟨by decide +kernel, by decide +kernel⟩, List.mem_of_getElem? (i := 900) (by decide +kernel), List.mem_of_getElem? (i := 1191) (by decide +kernel), List.mem_of_getElem? (i := 1192) (by decide +kernel)⟩
def lw_privs_3 : List (MethodName × Nat) := [(⟨"HoleTemplatesModel", "kindOf", "(II)I"⟩, 37), (⟨"HoleTemplatesModel", "valuePiece", "(I)I"⟩, 37), (⟨"HoleTemplatesModel", "urlPiece", "(I)I"⟩, 37), (⟨"HoleTemplatesModel", "codePiece", "(IZ)I"⟩, 37), (⟨"HoleTemplatesModel", "openPiece", "(IZ)I"⟩, 37), (⟨"HoleTemplatesModel", "stringPiece", "(I)I"⟩, 37), (⟨"HoleTemplatesModel", "titlePiece", "(I)I"⟩, 37), (⟨"HoleTemplatesModel", "commentPiece", "(I)I"⟩, 37), (⟨"HoleTemplatesModel", "insidePiece", "(IZ)I"⟩, 37), (⟨"HoleTemplatesModel", "readSymbol", "(I)Z"⟩, 37), (⟨"HoleTemplatesModel", "readHole", "(I)Z"⟩, 37), (⟨"HoleTemplatesModel", "holeContext", "()I"⟩, 37), (⟨"HoleTemplatesModel", "readOpening", "(I)Z"⟩, 37), (⟨"HoleTemplatesModel", "state", "()I"⟩, 37), (⟨"HoleTemplatesModel", "readOtherwise", "(I)Z"⟩, 37), (⟨"HoleTemplatesModel", "restore", "(I)V"⟩, 37)]
theorem lw_r3 : ∀ q ∈ lw_privs_3, lw_okq q := List.forall_mem_cons.mpr ⟨lw_p32, List.forall_mem_cons.mpr ⟨lw_p33, List.forall_mem_cons.mpr ⟨lw_p34, List.forall_mem_cons.mpr ⟨lw_p35, List.forall_mem_cons.mpr ⟨lw_p36, List.forall_mem_cons.mpr ⟨lw_p37, List.forall_mem_cons.mpr ⟨lw_p38, List.forall_mem_cons.mpr ⟨lw_p39, List.forall_mem_cons.mpr ⟨lw_p40, List.forall_mem_cons.mpr ⟨lw_p41, List.forall_mem_cons.mpr ⟨lw_p42, List.forall_mem_cons.mpr ⟨lw_p43, List.forall_mem_cons.mpr ⟨lw_p44, List.forall_mem_cons.mpr ⟨lw_p45, List.forall_mem_cons.mpr ⟨lw_p46, List.forall_mem_cons.mpr ⟨lw_p47, fun _ h => absurd h List.not_mem_nil⟩⟩⟩⟩⟩⟩⟩⟩⟩⟩⟩⟩⟩⟩⟩⟩
theorem lw_p48 : lw_okq (⟨"HoleTemplatesModel", "readClose", "(I)Z"⟩, 37) := ⟨⟨by decide +kernel, by decide +kernel⟩, List.mem_of_getElem? (i := 900) (by decide +kernel), List.mem_of_getElem? (i := 1195) (by decide +kernel), List.mem_of_getElem? (i := 1196) (by decide +kernel)⟩
theorem lw_p49 : lw_okq (⟨"HoleTemplatesModel", "put", "(C)V"⟩, 37) := ⟨⟨by decide +kernel, by decide +kernel⟩, List.mem_of_getElem? (i := 900) (by decide +kernel), List.mem_of_getElem? (i := 1223) (by decide +kernel), List.mem_of_getElem? (i := 1224) (by decide +kernel)⟩
theorem lw_p50 : lw_okq (⟨"HoleTemplatesModel", "variable", "(I)I"⟩, 37) := ⟨⟨by decide +kernel, by decide +kernel⟩, List.mem_of_getElem? (i := 900) (by decide +kernel), List.mem_of_getElem? (i := 1227) (by decide +kernel), List.mem_of_getElem? (i := 1228) (by decide +kernel)⟩
theorem lw_p51 : lw_okq (⟨"HoleTemplatesModel", "firstItem", "(I)I"⟩, 37) := ⟨⟨by decide +kernel, by decide +kernel⟩, List.mem_of_getElem? (i := 900) (by decide +kernel), List.mem_of_getElem? (i := 1231) (by decide +kernel), List.mem_of_getElem? (i := 1232) (by decide +kernel)⟩
theorem lw_p52 : lw_okq (⟨"HoleTemplatesModel", "putItem", "(II)V"⟩, 37) := ⟨⟨by decide +kernel, by decide +kernel⟩, List.mem_of_getElem? (i := 900) (by decide +kernel), List.mem_of_getElem? (i := 1235) (by decide +kernel), List.mem_of_getElem? (i := 1236) (by decide +kernel)⟩
theorem lw_p53 : lw_okq (⟨"HoleTemplatesModel", "isOff", "(I)Z"⟩, 37) := ⟨⟨by decide +kernel, by decide +kernel⟩, List.mem_of_getElem? (i := 900) (by decide +kernel), List.mem_of_getElem? (i := 1239) (by decide +kernel), List.mem_of_getElem? (i := 1240) (by decide +kernel)⟩
theorem lw_p54 : lw_okq (⟨"HoleTemplatesModel", "isSafe", "(II)Z"⟩, 37) := ⟨⟨by decide +kernel, by decide +kernel⟩, List.mem_of_getElem? (i := 900) (by decide +kernel), List.mem_of_getElem? (i := 1243) (by decide +kernel), List.mem_of_getElem? (i := 1244) (by decide +kernel)⟩
theorem lw_p55 : lw_okq (⟨"HoleTemplatesModel", "small", "(C)C"⟩, 37) := ⟨⟨by decide +kernel, by decide +kernel⟩, List.mem_of_getElem? (i := 900) (by decide +kernel), List.mem_of_getElem? (i := 1247) (by decide +kernel), List.mem_of_getElem? (i := 1248) (by decide +kernel)⟩
theorem lw_p56 : lw_okq (⟨"HoleTemplatesModel", "put5", "(CCCCC)V"⟩, 37) := ⟨⟨by decide +kernel, by decide +kernel⟩, List.mem_of_getElem? (i := 900) (by decide +kernel), List.mem_of_getElem? (i := 1251) (by decide +kernel), List.mem_of_getElem? (i := 1252) (by decide +kernel)⟩
theorem lw_p57 : lw_okq (⟨"HoleTemplatesModel", "isRule", "(I)Z"⟩, 37) := ⟨⟨by decide +kernel, by decide +kernel⟩, List.mem_of_getElem? (i := 900) (by decide +kernel), List.mem_of_getElem? (i := 1255) (by decide +kernel), List.mem_of_getElem? (i := 1256) (by decide +kernel)⟩
theorem lw_p58 : lw_okq (⟨"HoleTemplatesModel", "putQuote", "(I)V"⟩, 37) := ⟨⟨by decide +kernel, by decide +kernel⟩, List.mem_of_getElem? (i := 900) (by decide +kernel), List.mem_of_getElem? (i := 1259) (by decide +kernel), List.mem_of_getElem? (i := 1260) (by decide +kernel)⟩
theorem lw_p59 : lw_okq (⟨"HoleTemplatesModel", "putPlain", "(C)V"⟩, 37) := ⟨⟨by decide +kernel, by decide +kernel⟩, List.mem_of_getElem? (i := 900) (by decide +kernel), List.mem_of_getElem? (i := 1263) (by decide +kernel), List.mem_of_getElem? (i := 1264) (by decide +kernel)⟩
theorem lw_p60 : lw_okq (⟨"HoleTemplatesModel", "putUrl", "(CI)V"⟩, 37) := ⟨⟨by decide +kernel, by decide +kernel⟩, List.mem_of_getElem? (i := 900) (by decide +kernel), List.mem_of_getElem? (i := 1267) (by decide +kernel), List.mem_of_getElem? (i := 1268) (by decide +kernel)⟩
theorem lw_p61 : lw_okq (⟨"HoleTemplatesModel", "putHex", "(C)V"⟩, 37) := ⟨⟨by decide +kernel, by decide +kernel⟩, List.mem_of_getElem? (i := 900) (by decide +kernel), List.mem_of_getElem? (i := 1274) (by decide +kernel), List.mem_of_getElem? (i := 1275) (by decide +kernel)⟩
theorem lw_p62 : lw_okq (⟨"HoleTemplatesModel", "hex", "(I)C"⟩, 37) := ⟨⟨by decide +kernel, by decide +kernel⟩, List.mem_of_getElem? (i := 900) (by decide +kernel), List.mem_of_getElem? (i := 1278) (by decide +kernel), List.mem_of_getElem? (i := 1279) (by decide +kernel)⟩
theorem lw_p63 : lw_okq (⟨"HoleTemplatesModel", "putCode", "(CZ)V"⟩, 37) := ⟨⟨by decide +kernel, by decide +kernel⟩, List.mem_of_getElem? (i := 900) (by decide +kernel), List.mem_of_getElem? (i := 1282) (by decide +kernel), List.mem_of_getElem? (i := 1283) (by decide +kernel)⟩
def lw_privs_4 : List (MethodName × Nat) := [(⟨"HoleTemplatesModel", "readClose", "(I)Z"⟩, 37), (⟨"HoleTemplatesModel", "put", "(C)V"⟩, 37), (⟨"HoleTemplatesModel", "variable", "(I)I"⟩, 37), (⟨"HoleTemplatesModel", "firstItem", "(I)I"⟩, 37), (⟨"HoleTemplatesModel", "putItem", "(II)V"⟩, 37), (⟨"HoleTemplatesModel", "isOff", "(I)Z"⟩, 37), (⟨"HoleTemplatesModel", "isSafe", "(II)Z"⟩, 37), (⟨"HoleTemplatesModel", "small", "(C)C"⟩, 37), (⟨"HoleTemplatesModel", "put5", "(CCCCC)V"⟩, 37), (⟨"HoleTemplatesModel", "isRule", "(I)Z"⟩, 37), (⟨"HoleTemplatesModel", "putQuote", "(I)V"⟩, 37), (⟨"HoleTemplatesModel", "putPlain", "(C)V"⟩, 37), (⟨"HoleTemplatesModel", "putUrl", "(CI)V"⟩, 37), (⟨"HoleTemplatesModel", "putHex", "(C)V"⟩, 37), (⟨"HoleTemplatesModel", "hex", "(I)C"⟩, 37), (⟨"HoleTemplatesModel", "putCode", "(CZ)V"⟩, 37)]
theorem lw_r4 : ∀ q ∈ lw_privs_4, lw_okq q := List.forall_mem_cons.mpr ⟨lw_p48, List.forall_mem_cons.mpr ⟨lw_p49, List.forall_mem_cons.mpr ⟨lw_p50, List.forall_mem_cons.mpr ⟨lw_p51, List.forall_mem_cons.mpr ⟨lw_p52, List.forall_mem_cons.mpr ⟨lw_p53, List.forall_mem_cons.mpr ⟨lw_p54, List.forall_mem_cons.mpr ⟨lw_p55, List.forall_mem_cons.mpr ⟨lw_p56, List.forall_mem_cons.mpr ⟨lw_p57, List.forall_mem_cons.mpr ⟨lw_p58, List.forall_mem_cons.mpr ⟨lw_p59, List.forall_mem_cons.mpr ⟨lw_p60, List.forall_mem_cons.mpr ⟨lw_p61, List.forall_mem_cons.mpr ⟨lw_p62, List.forall_mem_cons.mpr ⟨lw_p63, fun _ h => absurd h List.not_mem_nil⟩⟩⟩⟩⟩⟩⟩⟩⟩⟩⟩⟩⟩⟩⟩⟩
theorem lw_p64 : lw_okq (⟨"HoleTemplatesModel", "choose", "(I)I"⟩, 37) := ⟨⟨by decide +kernel, by decide +kernel⟩, List.mem_of_getElem? (i := 900) (by decide +kernel), List.mem_of_getElem? (i := 1289) (by decide +kernel), List.mem_of_getElem? (i := 1290) (by decide +kernel)⟩
theorem lw_p65 : lw_okq (⟨"HoleTemplatesModel", "beginLoop", "(I)I"⟩, 37) := ⟨⟨by decide +kernel, by decide +kernel⟩, List.mem_of_getElem? (i := 900) (by decide +kernel), List.mem_of_getElem? (i := 1293) (by decide +kernel), List.mem_of_getElem? (i := 1294) (by decide +kernel)⟩
theorem lw_p66 : lw_okq (⟨"HoleTemplatesModel", "close", "(I)I"⟩, 37) := ⟨⟨by decide +kernel, by decide +kernel⟩, List.mem_of_getElem? (i := 900) (by decide +kernel), List.mem_of_getElem? (i := 1297) (by decide +kernel), List.mem_of_getElem? (i := 1298) (by decide +kernel)⟩
def lw_privs_5 : List (MethodName × Nat) := [(⟨"HoleTemplatesModel", "choose", "(I)I"⟩, 37), (⟨"HoleTemplatesModel", "beginLoop", "(I)I"⟩, 37), (⟨"HoleTemplatesModel", "close", "(I)I"⟩, 37)]
theorem lw_r5 : ∀ q ∈ lw_privs_5, lw_okq q := List.forall_mem_cons.mpr ⟨lw_p64, List.forall_mem_cons.mpr ⟨lw_p65, List.forall_mem_cons.mpr ⟨lw_p66, fun _ h => absurd h List.not_mem_nil⟩⟩⟩
def lw_privs : List (MethodName × Nat) := lw_privs_1 ++ (lw_privs_2 ++ (lw_privs_3 ++ (lw_privs_4 ++ (lw_privs_5))))
def lw_tbl : List Cond := k2_sels lw_privs ++ tables_1
theorem lw_privs_ok : ∀ q ∈ lw_privs, lw_okq q := by
  show ∀ q ∈ lw_privs_1 ++ (lw_privs_2 ++ (lw_privs_3 ++ (lw_privs_4 ++ (lw_privs_5)))), lw_okq q
  exact List.forall_mem_append.mpr ⟨lw_r1, List.forall_mem_append.mpr ⟨lw_r2, List.forall_mem_append.mpr ⟨lw_r3, List.forall_mem_append.mpr ⟨lw_r4, lw_r5⟩⟩⟩⟩
end
section
/-! AN ABSTRACT MACHINE. Its values are ints, places of the world, and things outside it (0 null, k + 1 the k-th constant). Its world is a list of cells: arrays of ints (type, length, contents) and objects (class number, fields). A method is run on it by evaluation; what it does there, the JVM does. -/
abbrev am_V : Type := Int32 ⊕ (Nat ⊕ Nat)
abbrev am_C : Type := (Nat × Nat × (Nat → Int32)) ⊕ (Nat × List am_V)
/-- pc, local variables, operand stack, world, cells made, slots made -/
abbrev am_S : Type := Nat × List (Option am_V) × List am_V × List am_C × Nat × Nat
/-- an end: the answer, the world -/
abbrev am_Z : Type := Option am_V × List am_C
/-- a method's meaning: arguments and world, to answer, world, cells made, slots made -/
abbrev am_M : Type := List am_V → List am_C → Option am_V × List am_C × Nat × Nat
def am_v (ad ou : Nat → Nat) (v : am_V) : Value := match v with
  | .inl x => .int x
  | .inr (.inl k) => .ref (ad k)
  | .inr (.inr 0) => .null
  | .inr (.inr (k + 1)) => .ref (ou k)
def am_e (ad ou : Nat → Nat) (ca : Nat → ClassId) (x : am_C) : va_E := match x with
  | .inl (t, n, f) => .inl (ca t, n, .inl f)
  | .inr (c, fs) => .inr (c, fs.map (am_v ad ou))
def am_w (ad ou : Nat → Nat) (ca : Nat → ClassId) (w : List am_C) : va_W := w.mapIdx (fun k x => (ad k, am_e ad ou ca x))
def am_l (ad ou : Nat → Nat) (L : List (Option am_V)) : List (Nat × Value) := L.zipIdx.filterMap (fun q => q.1.map (fun v => (q.2, am_v ad ou v)))
theorem am_cat (ad ou : Nat → Nat) (v : am_V) : (am_v ad ou v).category = 1 := by
  rcases v with x | k | k
  · rfl
  · rfl
  · cases k <;> rfl
theorem am_w_get {ad ou : Nat → Nat} {ca : Nat → ClassId} {w : List am_C} {k : Nat} {x : am_C} (h : w[k]? = some x) : (am_w ad ou ca w)[k]? = some (ad k, am_e ad ou ca x) := by
  simp [am_w, List.getElem?_mapIdx, h]
theorem am_w_inv {ad ou : Nat → Nat} {ca : Nat → ClassId} {w : List am_C} {k : Nat} {q : Nat × va_E} (h : (am_w ad ou ca w)[k]? = some q) : ∃ x, w[k]? = some x ∧ q = (ad k, am_e ad ou ca x) := by
  simp only [am_w, List.getElem?_mapIdx, Option.map_eq_some_iff] at h
  obtain ⟨x, h1, h2⟩ := h
  exact ⟨x, h1, h2.symm⟩
theorem am_w_len (ad ou : Nat → Nat) (ca : Nat → ClassId) (w : List am_C) : (am_w ad ou ca w).length = w.length := by simp [am_w]
theorem am_w_set (ad ou : Nat → Nat) (ca : Nat → ClassId) (w : List am_C) (k : Nat) (x : am_C) : am_w ad ou ca (w.set k x) = (am_w ad ou ca w).set k (ad k, am_e ad ou ca x) := by
  apply List.ext_getElem?
  intro i
  by_cases h : k = i
  · subst h
    by_cases h2 : k < w.length
    · simp [am_w, List.getElem?_mapIdx, List.getElem?_set, h2]
    · simp [am_w, List.getElem?_mapIdx, List.getElem?_set, h2]
  · simp [am_w, List.getElem?_mapIdx, List.getElem?_set, h]
theorem am_w_push (ad ou : Nat → Nat) (ca : Nat → ClassId) (w : List am_C) (x : am_C) : am_w ad ou ca (w ++ [x]) = am_w ad ou ca w ++ [(ad w.length, am_e ad ou ca x)] := by
  simp [am_w, List.mapIdx_append]
theorem am_l_mem {ad ou : Nat → Nat} {L : List (Option am_V)} {i : Nat} {v : Value} : (i, v) ∈ am_l ad ou L ↔ ∃ u, L[i]? = some (some u) ∧ am_v ad ou u = v := by
  simp only [am_l, List.mem_filterMap]
  constructor
  · rintro ⟨⟨o, j⟩, h1, h2⟩
    have h3 := List.mk_mem_zipIdx_iff_getElem?.mp h1
    cases o with
    | none => cases h2
    | some u =>
      have h4 : (j, am_v ad ou u) = (i, v) := Option.some.inj h2
      cases h4
      exact ⟨u, h3, rfl⟩
  · rintro ⟨u, h1, rfl⟩
    exact ⟨(some u, i), List.mk_mem_zipIdx_iff_getElem?.mpr h1, rfl⟩
theorem am_l_at {ad ou : Nat → Nat} {L : List (Option am_V)} {ls : Array Slot} {nL i : Nat} {u : am_V} (h : lv_has ls nL (am_l ad ou L)) (hu : L[i]? = some (some u)) : ls[i]? = some (.val (am_v ad ou u)) := h.2.2 (i, _) (am_l_mem.mpr ⟨u, hu, rfl⟩)
theorem am_l_set {ad ou : Nat → Nat} {L : List (Option am_V)} {ls : Array Slot} {nL i : Nat} {u : am_V} (h : lv_has ls nL ((i, am_v ad ou u) :: (am_l ad ou L).filter (fun q => !(q.1 == i) && !(q.1 + 1 == i && q.2.category == 2)))) : lv_has ls nL (am_l ad ou (L.set i (some u))) := by
  refine ⟨h.1, h.2.1, ?_⟩
  rintro ⟨j, v⟩ hq
  obtain ⟨u', h1, rfl⟩ := am_l_mem.mp hq
  apply h.2.2 (j, _)
  by_cases hj : i = j
  · subst hj
    rw [List.getElem?_set] at h1
    simp only [if_true] at h1
    split at h1
    · have h2 : u = u' := Option.some.inj (Option.some.inj h1)
      subst h2
      exact List.mem_cons_self
    · cases h1
  · rw [List.getElem?_set_ne hj] at h1
    refine List.mem_cons_of_mem _ (List.mem_filter.mpr ⟨am_l_mem.mpr ⟨u', h1, rfl⟩, ?_⟩)
    have h2 : ¬ j = i := fun q => hj q.symm
    simp [am_cat, h2]
/-- array types -/
def am_ty (t : Nat) : FieldType := match t with
  | 0 => .int
  | 1 => .char
  | 2 => .boolean
  | 3 => .byte
  | _ => .short
/-- what a field, or an answer, of this type takes as it is -/
def am_fit (ty : FieldType) (v : am_V) : Bool := match ty, v with
  | .int, .inl _ => true
  | .boolean, .inl x => x == 0 || x == 1
  | .char, .inl x => 0 ≤ x && x ≤ 65535
  | .object _, .inr _ => true
  | .array _, .inr _ => true
  | _, _ => false
theorem am_fit_ok {ty : FieldType} {v : am_V} (ad ou : Nat → Nat) (h : am_fit ty v = true) : narrow ty (am_v ad ou v) = am_v ad ou v ∧ fits ty (am_v ad ou v) = true := by
  rcases v with x | r
  · cases ty with
    | int => exact ⟨rfl, rfl⟩
    | boolean =>
      have h1 : x = 0 ∨ x = 1 := by simpa [am_fit] using h
      rcases h1 with rfl | rfl
      · exact ⟨rfl, rfl⟩
      · exact ⟨rfl, rfl⟩
    | char =>
      have h1 : 0 ≤ x ∧ x ≤ 65535 := by simpa [am_fit] using h
      obtain ⟨q, hq, rfl⟩ := nI_of2 (x := x) (M := 65535) (n := 65535) (by decide) (Int32.not_lt.mpr h1.1) h1.2
      exact pk_charN (by omega)
    | _ => simp [am_fit] at h
  · cases ty with
    | object n =>
      rcases r with k | k
      · exact ⟨rfl, rfl⟩
      · cases k <;> exact ⟨rfl, rfl⟩
    | array n =>
      rcases r with k | k
      · exact ⟨rfl, rfl⟩
      · cases k <;> exact ⟨rfl, rfl⟩
    | _ => simp [am_fit] at h
/-! the machine's tables of one method: code; fields by pool index (class number, field, 0 own or visible / 1 a nest mate's / 2 final in a constructor); the field types; classes by pool index (class number, first values); constants by pool index; calls by pc (the places that go to the callee, or none: all, as they are; how many arguments, the receiver counted; what the callee asks; its meaning); arrays outside (length, contents); how many array types there are; local variables; the cells, slots that may be made; the world's length at the start; the answer's type -/
abbrev am_T : Type := List (Nat × Instr × Nat) × (Nat → Option (Nat × Nat × Nat)) × (Nat → Nat → FieldType) × (Nat → Option (Nat × List am_V)) × (Nat → Option am_V) × (Nat → Option (Option (List Nat) × Nat × (List am_V → List am_C → Prop) × am_M)) × (Nat → Option (Nat × (Nat → Int32))) × Nat × Nat × Nat × Nat × Nat × Option FieldType
def am_at (code : List (Nat × Instr × Nat)) (pc : Nat) : Option (Instr × Nat) := match code with
  | [] => none
  | q :: r => bif q.1 == pc then some q.2 else am_at r pc
theorem am_at_mem {code : List (Nat × Instr × Nat)} {pc : Nat} {x : Instr × Nat} (h : am_at code pc = some x) : (pc, x) ∈ code := by
  induction code with
  | nil => cases h
  | cons q r ih =>
    unfold am_at at h
    cases hq : q.1 == pc with
    | true =>
      rw [hq] at h
      have h1 : q.2 = x := Option.some.inj h
      have h2 : q.1 = pc := by simpa using hq
      rw [← h1, ← h2]
      exact List.mem_cons_self
    | false =>
      rw [hq] at h
      exact List.mem_cons_of_mem _ (ih h)
/-- the target of a jump -/
def am_tg (pc : Nat) (off : Int) : Nat := ((pc : Int) + off).toNat
def am_ok0 (pc : Nat) (off : Int) : Bool := decide (0 ≤ (pc : Int) + off)
theorem am_tg_ok {pc : Nat} {off : Int} (h : am_ok0 pc off = true) : (pc : Int) + off = (am_tg pc off : Int) := by
  have h1 : 0 ≤ (pc : Int) + off := of_decide_eq_true h
  exact (Int.toNat_of_nonneg h1).symm
def am_g (L : List (Option am_V)) (i : Nat) : Option am_V := match L[i]? with
  | some (some v) => some v
  | _ => none
theorem am_g_ok {L : List (Option am_V)} {i : Nat} {v : am_V} (h : am_g L i = some v) : L[i]? = some (some v) := by
  unfold am_g at h
  split at h
  · rename_i u hu
    rw [hu, Option.some.inj h]
  · cases h
end
section
/-! the machine's step, in the style of what comes behind it: kt -/
/-- a test that evaluation alone does not decide -/
def am_chk (b : Bool) (x : Option am_Z) : Option am_Z := if b = true then x else none
def am_fic (ty : FieldType) (v : am_V) (x : Option am_Z) : Option am_Z := match ty with
  | .boolean => am_chk (am_fit .boolean v) x
  | .char => am_chk (am_fit .char v) x
  | ty => bif am_fit ty v then x else none
section AMDO
variable (T : am_T) (len pc : Nat) (L : List (Option am_V)) (S : List am_V) (w : List am_C) (k j : Nat) (kt : am_S → Option am_Z)
def am_nx (want : Nat) (L : List (Option am_V)) (S : List am_V) (w : List am_C) (k j : Nat) : Option am_Z := bif len == want then kt (pc + want, L, S, w, k, j) else none
def am_jp (off : Int) (S : List am_V) : Option am_Z := bif len == 3 && am_ok0 pc off then kt (am_tg pc off, L, S, w, k, j) else none
def am_ild (want i : Nat) : Option am_Z := match am_g L i with
  | some (.inl v) => am_nx len pc kt want L (.inl v :: S) w k j
  | _ => none
def am_ald (want i : Nat) : Option am_Z := match am_g L i with
  | some (.inr v) => am_nx len pc kt want L (.inr v :: S) w k j
  | _ => none
def am_nl (T : am_T) : Nat := T.2.2.2.2.2.2.2.2.1
def am_ist (want i : Nat) : Option am_Z := match S with
  | .inl v :: S => bif Nat.blt i (am_nl T) then am_nx len pc kt want (L.set i (some (.inl v))) S w k j else none
  | _ => none
def am_ast (want i : Nat) : Option am_Z := match S with
  | .inr v :: S => bif Nat.blt i (am_nl T) then am_nx len pc kt want (L.set i (some (.inr v))) S w k j else none
  | _ => none
def am_inc (i : Nat) (n : Int) : Option am_Z := match am_g L i with
  | some (.inl v) => bif Nat.blt i (am_nl T) then am_nx len pc kt 3 (L.set i (some (.inl (v + Int32.ofInt n)))) S w k j else none
  | _ => none
def am_psh (want : Nat) (v : am_V) : Option am_Z := am_nx len pc kt want L (v :: S) w k j
def am_bin (f : Int32 → Int32 → Int32) : Option am_Z := match S with
  | .inl y :: .inl x :: S => am_nx len pc kt 1 L (.inl (f x y) :: S) w k j
  | _ => none
def am_div (f : Int32 → Int32 → Int32) : Option am_Z := match S with
  | .inl y :: .inl x :: S => if y = 0 then none else am_nx len pc kt 1 L (.inl (f x y) :: S) w k j
  | _ => none
def am_un (f : Int32 → Int32) : Option am_Z := match S with
  | .inl x :: S => am_nx len pc kt 1 L (.inl (f x) :: S) w k j
  | _ => none
def am_stk (f : List am_V → Option (List am_V)) : Option am_Z := match f S with
  | some S => am_nx len pc kt 1 L S w k j
  | none => none
def am_ifz (c : ClassFile.Cond) (off : Int) : Option am_Z := match S with
  | .inl x :: S => bif am_ok0 pc off && len == 3 then (match c with
    | .eq => if x = 0 then am_jp len pc L w k j kt off S else am_nx len pc kt 3 L S w k j
    | .ne => if x = 0 then am_nx len pc kt 3 L S w k j else am_jp len pc L w k j kt off S
    | .lt => if x < 0 then am_jp len pc L w k j kt off S else am_nx len pc kt 3 L S w k j
    | .ge => if 0 ≤ x then am_jp len pc L w k j kt off S else am_nx len pc kt 3 L S w k j
    | .gt => if 0 < x then am_jp len pc L w k j kt off S else am_nx len pc kt 3 L S w k j
    | .le => if x ≤ 0 then am_jp len pc L w k j kt off S else am_nx len pc kt 3 L S w k j) else none
  | _ => none
def am_icm (c : ClassFile.Cond) (off : Int) : Option am_Z := match S with
  | .inl y :: .inl x :: S => bif am_ok0 pc off && len == 3 then (match c with
    | .eq => if x = y then am_jp len pc L w k j kt off S else am_nx len pc kt 3 L S w k j
    | .ne => if x = y then am_nx len pc kt 3 L S w k j else am_jp len pc L w k j kt off S
    | .lt => if x < y then am_jp len pc L w k j kt off S else am_nx len pc kt 3 L S w k j
    | .ge => if y ≤ x then am_jp len pc L w k j kt off S else am_nx len pc kt 3 L S w k j
    | .gt => if y < x then am_jp len pc L w k j kt off S else am_nx len pc kt 3 L S w k j
    | .le => if x ≤ y then am_jp len pc L w k j kt off S else am_nx len pc kt 3 L S w k j) else none
  | _ => none
/-- a switch, as a row of tests -/
def am_sw (x : Int32) (ps : List (Int × Int)) (d : Int) (f : Int → Option am_Z) : Option am_Z := match ps with
  | [] => f d
  | q :: r => if x = Int32.ofInt q.1 then f q.2 else am_sw x r d f
def am_jw (off : Int) (S : List am_V) : Option am_Z := bif am_ok0 pc off then kt (am_tg pc off, L, S, w, k, j) else none
def am_tps (lo : Int) (l : List Int) : List (Int × Int) := match l with
  | [] => []
  | o :: r => (lo, o) :: am_tps (lo + 1) r
def am_r31 (x : Int) : Bool := decide (-2147483648 ≤ x) && decide (x ≤ 2147483647)
def am_tsw (d lo hi : Int) (offs : List Int) : Option am_Z := match S with
  | .inl x :: S => bif am_r31 lo && am_r31 hi && (lo + offs.length == hi + 1) then am_sw x (am_tps lo offs) d (fun o => am_jw pc L w k j kt o S) else none
  | _ => none
def am_lsw (d : Int) (ps : List (Int × Int)) : Option am_Z := match S with
  | .inl x :: S => bif ps.all (fun q => am_r31 q.1) && (ps.zip (ps.drop 1)).all (fun (a, next) => decide (a.1 < next.1)) then am_sw x ps d (fun o => am_jw pc L w k j kt o S) else none
  | _ => none
def am_gtf (index : Nat) : Option am_Z := match S with
  | .inr (.inl q) :: S => match w[q]?, T.2.1 index with
    | some (.inr (ci, fs)), some (cj, fi, mode) => bif ci == cj && Nat.ble mode 4 then (match fs[fi]? with
      | some v => am_nx len pc kt 3 L (v :: S) w k j
      | none => none) else none
    | _, _ => none
  | _ => none
def am_ptf (index : Nat) : Option am_Z := match S with
  | v :: .inr (.inl q) :: S => match w[q]?, T.2.1 index with
    | some (.inr (ci, fs)), some (cj, fi, mode) => bif ci == cj && Nat.ble mode 2 && Nat.blt fi fs.length then am_fic (T.2.2.1 ci fi) v (am_nx len pc kt 3 L S (w.set q (.inr (ci, fs.set fi v))) k j) else none
    | _, _ => none
  | _ => none
def am_inb (i : Int32) (n : Nat) : Bool := !(decide (i < 0) || Nat.ble n i.toNatClampNeg)
def am_nt (T : am_T) : Nat := T.2.2.2.2.2.2.2.1
/-- a load out of an array of type ty: of the world, or (ints) outside -/
def am_arl (ty : Nat) : Option am_Z := match S with
  | .inl i :: .inr (.inl q) :: S => (match w[q]? with
    | some (.inl (t, n, f)) => bif t == ty && Nat.blt t (am_nt T) then am_chk (am_inb i n) (am_nx len pc kt 1 L (.inl (f i.toNatClampNeg) :: S) w k j) else none
    | _ => none)
  | .inl i :: .inr (.inr (o + 1)) :: S => (match T.2.2.2.2.2.2.1 o with
    | some (n, f) => bif ty == 0 then am_chk (am_inb i n) (am_nx len pc kt 1 L (.inl (f i.toNatClampNeg) :: S) w k j) else none
    | none => none)
  | _ => none
def am_nar (ty : Nat) (x : Int32) : Int32 := match ty with
  | 0 => x
  | t + 1 => vp_nar (am_ty (t + 1)) x
def am_ars (ty : Nat) : Option am_Z := match S with
  | .inl x :: .inl i :: .inr (.inl q) :: S => (match w[q]? with
    | some (.inl (t, n, f)) => bif t == ty && Nat.blt t (am_nt T) then am_chk (am_inb i n) (am_nx len pc kt 1 L S (w.set q (.inl (t, n, upd f i.toNatClampNeg (am_nar ty x)))) k j) else none
    | _ => none)
  | _ => none
def am_aln : Option am_Z := match S with
  | .inr (.inl q) :: S => (match w[q]? with
    | some (.inl (t, n, _)) => bif Nat.blt t (am_nt T) then am_nx len pc kt 1 L (.inl (Int32.ofNat n) :: S) w k j else none
    | _ => none)
  | .inr (.inr (o + 1)) :: S => (match T.2.2.2.2.2.2.1 o with
    | some (n, _) => am_nx len pc kt 1 L (.inl (Int32.ofNat n) :: S) w k j
    | none => none)
  | _ => none
def am_mc (T : am_T) : Nat := T.2.2.2.2.2.2.2.2.2.1
def am_ms (T : am_T) : Nat := T.2.2.2.2.2.2.2.2.2.2.1
def am_n0 (T : am_T) : Nat := T.2.2.2.2.2.2.2.2.2.2.2.1
def am_rt (T : am_T) : Option FieldType := T.2.2.2.2.2.2.2.2.2.2.2.2
/-- refers to places under n alone -/
def am_lo (n : Nat) (v : am_V) : Bool := match v with
  | .inr (.inl q) => Nat.blt q n
  | _ => true
def am_loC (n : Nat) (x : am_C) : Bool := match x with
  | .inl _ => true
  | .inr (_, fs) => fs.all (am_lo n)
def am_loO (n : Nat) (o : Option am_V) : Bool := match o with
  | some v => am_lo n v
  | none => true
def am_low (n : Nat) (L : List (Option am_V)) (S : List am_V) (w : List am_C) : Bool := L.all (am_loO n) && S.all (am_lo n) && w.all (am_loC n)
def am_new (index : Nat) : Option am_Z := match T.2.2.2.1 index with
  | some (ci, fs) => bif am_low w.length L S w && fs.all (am_lo w.length) && Nat.ble (am_n0 T) w.length && Nat.ble (k + 1) (am_mc T) && Nat.ble (j + fs.length) (am_ms T)
      then am_nx len pc kt 3 L (.inr (.inl w.length) :: S) (w ++ [.inr (ci, fs)]) (k + 1) (j + fs.length) else none
  | none => none
def am_tyn (a : ArrayType) : Option Nat := match a with
  | .int => some 0
  | .char => some 1
  | .boolean => some 2
  | .byte => some 3
  | .short => some 4
  | _ => none
def am_nwa (a : ArrayType) : Option am_Z := match am_tyn a, S with
  | some t, .inl n :: S => bif !(decide (n < 0)) && (Nat.ble (n.toNatClampNeg * 4) 536870912 && (Nat.blt t (am_nt T) && (am_low w.length L S w && (Nat.ble (am_n0 T) w.length && (Nat.ble (k + 1) (am_mc T) && Nat.ble (j + n.toNatClampNeg) (am_ms T))))))
      then am_nx len pc kt 2 L (.inr (.inl w.length) :: S) (w ++ [.inl (t, n.toNatClampNeg, fun _ => 0)]) (k + 1) (j + n.toNatClampNeg) else none
  | _, _ => none
end AMDO
/-! a call: the cells that the arguments reach go to the callee, under places of its own -/
/-- a value, under the callee's places -/
def am_dn (sel : List Nat) (v : am_V) : am_V := match v with
  | .inr (.inl q) => .inr (.inl (sel.idxOf q))
  | v => v
def am_dnC (sel : List Nat) (x : am_C) : am_C := match x with
  | .inl a => .inl a
  | .inr (c, fs) => .inr (c, fs.map (am_dn sel))
def am_sub (w : List am_C) (sel : List Nat) : List am_C := sel.filterMap (fun q => (w[q]?).map (am_dnC sel))
/-- a value of the callee's, under the caller's places; n: how many the caller had -/
def am_up (sel : List Nat) (n : Nat) (v : am_V) : am_V := match v with
  | .inr (.inl q) => .inr (.inl (bif Nat.blt q sel.length then sel.getD q 0 else n + (q - sel.length)))
  | v => v
def am_upC (sel : List Nat) (n : Nat) (x : am_C) : am_C := match x with
  | .inl a => .inl a
  | .inr (c, fs) => .inr (c, fs.map (am_up sel n))
def am_mix (w : List am_C) (sel : List Nat) (w1 : List am_C) : List am_C :=
  w.mapIdx (fun q x => bif sel.contains q then am_upC sel w.length (w1.getD (sel.idxOf q) x) else x) ++ (w1.drop sel.length).map (am_upC sel w.length)
def am_hin (sel : List Nat) (v : am_V) : Bool := match v with
  | .inr (.inl q) => sel.contains q
  | _ => true
def am_hinC (sel : List Nat) (x : am_C) : Bool := match x with
  | .inl _ => true
  | .inr (_, fs) => fs.all (am_hin sel)
/-- the selection is what a call may be made with -/
def am_sok (w : List am_C) (sel : List Nat) (a : List am_V) : Bool := sel.all (fun q => Nat.blt q w.length) && (va_nd sel && (a.all (am_hin sel) && sel.all (fun q => match w[q]? with
  | some x => am_hinC sel x
  | none => false)))
def am_ans (sel : List Nat) (n : Nat) (r : Option am_V) : List am_V := match r with
  | some v => [am_up sel n v]
  | none => []
section AMCALL
variable (T : am_T) (len pc : Nat) (L : List (Option am_V)) (w : List am_C) (k j : Nat) (kt : am_S → Option am_Z)
/-- behind the call -/
noncomputable def am_aft (S : List am_V) (sel : List Nat) (r : Option am_V × List am_C × Nat × Nat) : Option am_Z :=
  bif Nat.ble sel.length r.2.1.length && (Nat.ble (k + r.2.2.1) (am_mc T) && (Nat.ble (j + r.2.2.2) (am_ms T) && (Nat.ble S.length 8 && ((r.2.1.length == sel.length && (r.2.1.all (am_loC sel.length) && am_loO sel.length r.1)) || (am_low w.length L S w && Nat.ble (am_n0 T) w.length)))))
    then am_nx len pc kt 3 L (am_ans sel w.length r.1 ++ S) (am_mix w sel r.2.1) (k + r.2.2.1) (j + r.2.2.2) else none
noncomputable def am_cal (a rest : List am_V) (sel : List Nat) (pre : List am_V → List am_C → Prop) (f : am_M) : Option am_Z :=
  bif am_sok w sel a then @ite _ (pre (a.map (am_dn sel)) (am_sub w sel)) (Classical.propDecidable _) (am_aft T len pc L w k j kt rest sel (f (a.map (am_dn sel)) (am_sub w sel))) none else none
/-- a call that takes the whole world along -/
noncomputable def am_afw (S : List am_V) (r : Option am_V × List am_C × Nat × Nat) : Option am_Z :=
  bif Nat.ble w.length r.2.1.length && (Nat.ble (k + r.2.2.1) (am_mc T) && (Nat.ble (j + r.2.2.2) (am_ms T) && (Nat.ble S.length 8 && (L.all (am_loO w.length) && (S.all (am_lo w.length) && Nat.ble (am_n0 T) w.length)))))
    then am_nx len pc kt 3 L (r.1.toList ++ S) r.2.1 (k + r.2.2.1) (j + r.2.2.2) else none
noncomputable def am_caw (a rest : List am_V) (pre : List am_V → List am_C → Prop) (f : am_M) : Option am_Z :=
  @ite _ (pre a w) (Classical.propDecidable _) (am_afw T len pc L w k j kt rest (f a w)) none
noncomputable def am_inv (S : List am_V) : Option am_Z := match T.2.2.2.2.2.1 pc with
  | some (some sel, n, pre, f) => bif Nat.ble n S.length then am_cal T len pc L w k j kt (S.take n).reverse (S.drop n) sel pre f else none
  | some (none, n, pre, f) => bif Nat.ble n S.length then am_caw T len pc L w k j kt (S.take n).reverse (S.drop n) pre f else none
  | none => none
end AMCALL
/-- an answer -/
def am_end (T : am_T) (len k j : Nat) : Bool := len == 1 && (Nat.ble k (am_mc T) && Nat.ble j (am_ms T))
def am_ret (T : am_T) (i : Instr) (len : Nat) (S : List am_V) (w : List am_C) (k j : Nat) : Option am_Z := match i with
  | .return_ => bif am_end T len k j then (match am_rt T, S with
    | none, [] => some (none, w)
    | _, _ => none) else none
  | .ireturn => bif am_end T len k j then (match am_rt T, S with
    | some ty, [.inl v] => am_fic ty (.inl v) (some (some (.inl v), w))
    | _, _ => none) else none
  | .areturn => bif am_end T len k j then (match am_rt T, S with
    | some ty, [.inr v] => am_fic ty (.inr v) (some (some (.inr v), w))
    | _, _ => none) else none
  | _ => none
noncomputable def am_do (T : am_T) (i : Instr) (len pc : Nat) (L : List (Option am_V)) (S : List am_V) (w : List am_C) (k j : Nat) (kt : am_S → Option am_Z) : Option am_Z := match i with
  | .iload_n x => am_ild len pc L S w k j kt 1 x.val
  | .iload x => am_ild len pc L S w k j kt 2 x
  | .aload_n x => am_ald len pc L S w k j kt 1 x.val
  | .aload x => am_ald len pc L S w k j kt 2 x
  | .istore_n x => am_ist T len pc L S w k j kt 1 x.val
  | .istore x => am_ist T len pc L S w k j kt 2 x
  | .astore_n x => am_ast T len pc L S w k j kt 1 x.val
  | .astore x => am_ast T len pc L S w k j kt 2 x
  | .iinc x n => am_inc T len pc L S w k j kt x n
  | .iconst n => am_psh len pc L S w k j kt 1 (.inl (Int32.ofInt n))
  | .bipush n => am_psh len pc L S w k j kt 2 (.inl (Int8.ofInt n).toInt32)
  | .sipush n => am_psh len pc L S w k j kt 3 (.inl (Int16.ofInt n).toInt32)
  | .ldc x => (match T.2.2.2.2.1 x with
    | some v => am_psh len pc L S w k j kt 2 v
    | none => none)
  | .aconst_null => am_psh len pc L S w k j kt 1 (.inr (.inr 0))
  | .iadd => am_bin len pc L S w k j kt (fun x y => x + y)
  | .isub => am_bin len pc L S w k j kt (fun x y => x - y)
  | .imul => am_bin len pc L S w k j kt (fun x y => x * y)
  | .iand => am_bin len pc L S w k j kt (fun x y => x &&& y)
  | .ior => am_bin len pc L S w k j kt (fun x y => x ||| y)
  | .ixor => am_bin len pc L S w k j kt (fun x y => x ^^^ y)
  | .ishl => am_bin len pc L S w k j kt (fun x y => x <<< (y &&& 31))
  | .ishr => am_bin len pc L S w k j kt (fun x y => x >>> (y &&& 31))
  | .iushr => am_bin len pc L S w k j kt (fun x y => (x.toUInt32 >>> (y.toUInt32 &&& Int32.toUInt32 31)).toInt32)
  | .idiv => am_div len pc L S w k j kt (fun x y => x / y)
  | .irem => am_div len pc L S w k j kt (fun x y => x - x / y * y)
  | .ineg => am_un len pc L S w k j kt (fun x => -x)
  | .i2c => am_un len pc L S w k j kt (fun x => (x.toUInt32 % 65536).toInt32)
  | .dup => (match S with
    | v :: S => am_nx len pc kt 1 L (v :: v :: S) w k j
    | _ => none)
  | .pop => (match S with
    | _ :: S => am_nx len pc kt 1 L S w k j
    | _ => none)
  | .dup2 => (match S with
    | v :: u :: S => am_nx len pc kt 1 L (v :: u :: v :: u :: S) w k j
    | _ => none)
  | .dup_x1 => (match S with
    | v :: u :: S => am_nx len pc kt 1 L (v :: u :: v :: S) w k j
    | _ => none)
  | .dup_x2 => (match S with
    | v :: u :: z :: S => am_nx len pc kt 1 L (v :: u :: z :: v :: S) w k j
    | _ => none)
  | .ifCond c off => am_ifz len pc L S w k j kt c off
  | .if_icmp c off => am_icm len pc L S w k j kt c off
  | .goto off => am_jp len pc L w k j kt off S
  | .tableswitch d lo hi offs => am_tsw pc L S w k j kt d lo hi offs.toList
  | .lookupswitch d ps => am_lsw pc L S w k j kt d ps.toList
  | .getfield x => am_gtf T len pc L S w k j kt x
  | .putfield x => am_ptf T len pc L S w k j kt x
  | .iaload => am_arl T len pc L S w k j kt 0
  | .caload => am_arl T len pc L S w k j kt 1
  | .iastore => am_ars T len pc L S w k j kt 0
  | .castore => am_ars T len pc L S w k j kt 1
  | .arraylength => am_aln T len pc L S w k j kt
  | .new x => am_new T len pc L S w k j kt x
  | .newarray a => am_nwa T len pc L S w k j kt a
  | .invokevirtual _ => am_inv T len pc L w k j kt S
  | .invokestatic _ => am_inv T len pc L w k j kt S
  | .invokespecial _ => am_inv T len pc L w k j kt S
  | i => am_ret T i len S w k j
/-- on and on, until a cut (a loop's head) or the end -/
noncomputable def am_go (T : am_T) (cuts : List Nat) (n : Nat) (st : am_S) (kt : am_S → Option am_Z) : Option am_Z := match n with
  | 0 => none
  | n + 1 => match st with
    | (pc, L, S, w, k, j) => match am_at T.1 pc with
      | some (i, len) => am_do T i len pc L S w k j (fun st' => bif cuts.contains st'.1 then kt st' else am_go T cuts n st' kt)
      | none => none
noncomputable def am_ev (T : am_T) (cuts : List Nat) (n : Nat) (st : am_S) : Option am_Z := match n with
  | 0 => none
  | n + 1 => am_go T cuts 400 st (am_ev T cuts n)
theorem am_ci {c : Prop} {d : Decidable c} {x y z : Option am_Z} (h : c) (k : x = z) : @ite _ c d x y = z := by
  rw [if_pos h]
  exact k
theorem am_cn {c : Prop} {d : Decidable c} {x y z : Option am_Z} (h : ¬ c) (k : y = z) : @ite _ c d x y = z := by
  rw [if_neg h]
  exact k
theorem am_if {c : Prop} {d : Decidable c} {a b z : Option am_Z} (ht : c → a = z) (hf : ¬ c → b = z) : @ite _ c d a b = z := by
  by_cases h : c
  · rw [if_pos h]; exact ht h
  · rw [if_neg h]; exact hf h
end
section
/-! WHAT THE MACHINE DOES THE JVM DOES: step by step -/
section AMW
variable {p : Program} {l : Launch} {e : Env} {R : Room} {s : State} {m : MethodId} {args : Array Value} {below : List Frame} {meth : Method} {c : Code} {Q : State → Prop} {cc : ByteArray} {D : va_G} {cl : List vw_C} {tys : List (ClassId × FieldType)} {A : Nat → Prop} {Ts : List Jvm.Cond} {own : String} {nL nt : Nat} {ou : Nat → Nat} {ca : Nat → ClassId}
def am_W (p : Program) (l : Launch) (e : Env) (R : Room) (s : State) (m : MethodId) (args : Array Value) (below : List Frame) (meth : Method) (c : Code) (Q : State → Prop) (D : va_G) (cl : List vw_C) (A : Nat → Prop) (ou : Nat → Nat) (ca : Nat → ClassId) (nL : Nat) (ad : Nat → Nat) (st : am_S) : Prop :=
  ∀ (H : Heap) (locs : List Loc) (ls : Array Slot), va_P D cl (am_w ad ou ca st.2.2.2.1) H → va_D A (am_w ad ou ca st.2.2.2.1) → va_S A s.heap H locs → lv_has ls nL (am_l ad ou st.2.1) → W p l e R s m args below meth c H locs st.2.2.2.2.1 st.2.2.2.2.2 Q (F0 m st.1 ls (st.2.2.1.map (am_v ad ou)))
def am_X (p : Program) (s : State) (m : MethodId) (args : Array Value) (c : Code) (cc : ByteArray) (own : String) (Ts : List Jvm.Cond) (D : va_G) (cl : List vw_C) (tys : List (ClassId × FieldType)) (A : Nat → Prop) (nL : Nat) (ca : Nat → ClassId) (nt : Nat) : Prop :=
  p.tables.exec = Jvm.exec ∧ c.code = cc ∧ c.maxLocals = nL ∧ s.vm.findClass own = some m.cls ∧ (∀ w ∈ Ts, w.before args s = true) ∧ va_K D cl tys s ∧ (∀ q, s.heap.size ≤ q → A q) ∧ (∀ t, t < nt → tys[t]? = some (ca t, am_ty t)) ∧ (∀ t, t < nt → (Jvm.Cond.arrayClass (am_ty t)).before args s = true) ∧ nt ≤ 5
theorem am_bt {α : Type} {b : Bool} {x : Option α} {z : α} (h : (bif b then x else none) = some z) : b = true ∧ x = some z := by
  cases b
  · cases h
  · exact ⟨rfl, h⟩
theorem am_chk_inv {b : Bool} {x : Option am_Z} {z : am_Z} (h : am_chk b x = some z) : b = true ∧ x = some z := by
  cases b
  · cases h
  · exact ⟨rfl, h⟩
theorem am_fic_inv {ty : FieldType} {v : am_V} {x : Option am_Z} {z : am_Z} (h : am_fic ty v x = some z) : am_fit ty v = true ∧ x = some z := by
  cases ty <;> first | exact am_bt h | exact am_chk_inv h
theorem am_nx_inv {len pc want k j : Nat} {kt : am_S → Option am_Z} {L : List (Option am_V)} {S : List am_V} {w : List am_C} {z : am_Z} (h : am_nx len pc kt want L S w k j = some z) : len = want ∧ kt (pc + want, L, S, w, k, j) = some z := by
  obtain ⟨h1, h2⟩ := am_bt h
  exact ⟨by simpa using h1, h2⟩
theorem am_jp_inv {len pc k j : Nat} {off : Int} {kt : am_S → Option am_Z} {L : List (Option am_V)} {S : List am_V} {w : List am_C} {z : am_Z} (h : am_jp len pc L w k j kt off S = some z) : len = 3 ∧ (pc : Int) + off = (am_tg pc off : Int) ∧ kt (am_tg pc off, L, S, w, k, j) = some z := by
  obtain ⟨h1, h2⟩ := am_bt h
  rw [Bool.and_eq_true] at h1
  exact ⟨by simpa using h1.1, am_tg_ok h1.2, h2⟩
theorem am_inb_ok {i : Int32} {n : Nat} (h : am_inb i n = true) : vp_in i n := by
  intro hc
  rcases hc with hc | hc
  · simp [am_inb, hc] at h
  · have h1 : Nat.ble n i.toNatClampNeg = true := Nat.ble_eq_true_of_le hc
    simp [am_inb, h1] at h
theorem am_o_iload_n {len pc k j : Nat} {ad : Nat → Nat} {kt : am_S → Option am_Z} {L : List (Option am_V)} {S : List am_V} {w : List am_C} {z : am_Z} {x : Fin 4} (X : am_X p s m args c cc own Ts D cl tys A nL ca nt) (hd : decode cc pc = .ok (.iload_n x, len)) (h : am_ild len pc L S w k j kt 1 x.val = some z) (K : ∀ st' : am_S, kt st' = some z → am_W p l e R s m args below meth c Q D cl A ou ca nL ad st') : am_W p l e R s m args below meth c Q D cl A ou ca nL ad (pc, L, S, w, k, j) := by
  unfold am_ild at h
  split at h
  · rename_i v hg
    obtain ⟨rfl, hk⟩ := am_nx_inv h
    exact fun H locs ls hP hD hS hl => lv_iload_n X.1 X.2.1 hd rfl (am_l_at hl (am_g_ok hg)) (K _ hk H locs ls hP hD hS hl)
  · cases h
theorem am_o_iload {len pc k j : Nat} {ad : Nat → Nat} {kt : am_S → Option am_Z} {L : List (Option am_V)} {S : List am_V} {w : List am_C} {z : am_Z} {x : Nat} (X : am_X p s m args c cc own Ts D cl tys A nL ca nt) (hd : decode cc pc = .ok (.iload x, len)) (h : am_ild len pc L S w k j kt 2 x = some z) (K : ∀ st' : am_S, kt st' = some z → am_W p l e R s m args below meth c Q D cl A ou ca nL ad st') : am_W p l e R s m args below meth c Q D cl A ou ca nL ad (pc, L, S, w, k, j) := by
  unfold am_ild at h
  split at h
  · rename_i v hg
    obtain ⟨rfl, hk⟩ := am_nx_inv h
    exact fun H locs ls hP hD hS hl => lv_iload X.1 X.2.1 hd (am_l_at hl (am_g_ok hg)) (K _ hk H locs ls hP hD hS hl)
  · cases h
theorem am_o_aload_n {len pc k j : Nat} {ad : Nat → Nat} {kt : am_S → Option am_Z} {L : List (Option am_V)} {S : List am_V} {w : List am_C} {z : am_Z} {x : Fin 4} (X : am_X p s m args c cc own Ts D cl tys A nL ca nt) (hd : decode cc pc = .ok (.aload_n x, len)) (h : am_ald len pc L S w k j kt 1 x.val = some z) (K : ∀ st' : am_S, kt st' = some z → am_W p l e R s m args below meth c Q D cl A ou ca nL ad st') : am_W p l e R s m args below meth c Q D cl A ou ca nL ad (pc, L, S, w, k, j) := by
  unfold am_ald at h
  split at h
  · rename_i v hg
    obtain ⟨rfl, hk⟩ := am_nx_inv h
    have hg := am_g_ok hg
    rcases v with q | q
    · exact fun H locs ls hP hD hS hl => lv_aload_n X.1 X.2.1 hd rfl (am_l_at hl hg) (K _ hk H locs ls hP hD hS hl)
    · cases q with
      | zero => exact fun H locs ls hP hD hS hl => lv_aload_nN X.1 X.2.1 hd rfl (am_l_at hl hg) (K _ hk H locs ls hP hD hS hl)
      | succ q => exact fun H locs ls hP hD hS hl => lv_aload_n X.1 X.2.1 hd rfl (am_l_at hl hg) (K _ hk H locs ls hP hD hS hl)
  · cases h
theorem am_o_aload {len pc k j : Nat} {ad : Nat → Nat} {kt : am_S → Option am_Z} {L : List (Option am_V)} {S : List am_V} {w : List am_C} {z : am_Z} {x : Nat} (X : am_X p s m args c cc own Ts D cl tys A nL ca nt) (hd : decode cc pc = .ok (.aload x, len)) (h : am_ald len pc L S w k j kt 2 x = some z) (K : ∀ st' : am_S, kt st' = some z → am_W p l e R s m args below meth c Q D cl A ou ca nL ad st') : am_W p l e R s m args below meth c Q D cl A ou ca nL ad (pc, L, S, w, k, j) := by
  unfold am_ald at h
  split at h
  · rename_i v hg
    obtain ⟨rfl, hk⟩ := am_nx_inv h
    have hg := am_g_ok hg
    rcases v with q | q
    · exact fun H locs ls hP hD hS hl => lv_aload X.1 X.2.1 hd (am_l_at hl hg) (K _ hk H locs ls hP hD hS hl)
    · cases q with
      | zero => exact fun H locs ls hP hD hS hl => lv_aloadN X.1 X.2.1 hd (am_l_at hl hg) (K _ hk H locs ls hP hD hS hl)
      | succ q => exact fun H locs ls hP hD hS hl => lv_aload X.1 X.2.1 hd (am_l_at hl hg) (K _ hk H locs ls hP hD hS hl)
  · cases h
theorem am_o_istore_n {len pc k j : Nat} {ad : Nat → Nat} {kt : am_S → Option am_Z} {L : List (Option am_V)} {S : List am_V} {w : List am_C} {z : am_Z} {x : Fin 4} {T : am_T} (X : am_X p s m args c cc own Ts D cl tys A nL ca nt) (hT : am_nl T = nL) (hd : decode cc pc = .ok (.istore_n x, len)) (h : am_ist T len pc L S w k j kt 1 x.val = some z) (K : ∀ st' : am_S, kt st' = some z → am_W p l e R s m args below meth c Q D cl A ou ca nL ad st') : am_W p l e R s m args below meth c Q D cl A ou ca nL ad (pc, L, S, w, k, j) := by
  unfold am_ist at h
  split at h
  · rename_i v S'
    have hh := am_bt h
    clear h
    obtain ⟨hi, h⟩ := hh
    obtain ⟨rfl, hk⟩ := am_nx_inv h
    rw [hT] at hi
    exact fun H locs ls hP hD hS hl => lv_istore_n X.1 X.2.1 hd rfl hl (Nat.le_of_ble_eq_true hi) rfl (fun ls' hl' => K _ hk H locs ls' hP hD hS (am_l_set (u := .inl v) hl'))
  · cases h
theorem am_o_istore {len pc k j : Nat} {ad : Nat → Nat} {kt : am_S → Option am_Z} {L : List (Option am_V)} {S : List am_V} {w : List am_C} {z : am_Z} {x : Nat} {T : am_T} (X : am_X p s m args c cc own Ts D cl tys A nL ca nt) (hT : am_nl T = nL) (hd : decode cc pc = .ok (.istore x, len)) (h : am_ist T len pc L S w k j kt 2 x = some z) (K : ∀ st' : am_S, kt st' = some z → am_W p l e R s m args below meth c Q D cl A ou ca nL ad st') : am_W p l e R s m args below meth c Q D cl A ou ca nL ad (pc, L, S, w, k, j) := by
  unfold am_ist at h
  split at h
  · rename_i v S'
    have hh := am_bt h
    clear h
    obtain ⟨hi, h⟩ := hh
    obtain ⟨rfl, hk⟩ := am_nx_inv h
    rw [hT] at hi
    exact fun H locs ls hP hD hS hl => lv_istore X.1 X.2.1 hd hl (Nat.le_of_ble_eq_true hi) rfl (fun ls' hl' => K _ hk H locs ls' hP hD hS (am_l_set (u := .inl v) hl'))
  · cases h
theorem am_o_astore_n {len pc k j : Nat} {ad : Nat → Nat} {kt : am_S → Option am_Z} {L : List (Option am_V)} {S : List am_V} {w : List am_C} {z : am_Z} {x : Fin 4} {T : am_T} (X : am_X p s m args c cc own Ts D cl tys A nL ca nt) (hT : am_nl T = nL) (hd : decode cc pc = .ok (.astore_n x, len)) (h : am_ast T len pc L S w k j kt 1 x.val = some z) (K : ∀ st' : am_S, kt st' = some z → am_W p l e R s m args below meth c Q D cl A ou ca nL ad st') : am_W p l e R s m args below meth c Q D cl A ou ca nL ad (pc, L, S, w, k, j) := by
  unfold am_ast at h
  split at h
  · rename_i v S'
    have hh := am_bt h
    clear h
    obtain ⟨hi, h⟩ := hh
    obtain ⟨rfl, hk⟩ := am_nx_inv h
    rw [hT] at hi
    rcases v with q | q
    · exact fun H locs ls hP hD hS hl => lv_astore_n X.1 X.2.1 hd rfl hl (Nat.le_of_ble_eq_true hi) rfl (fun ls' hl' => K _ hk H locs ls' hP hD hS (am_l_set (u := .inr (.inl q)) hl'))
    · cases q with
      | zero => exact fun H locs ls hP hD hS hl => lv_astore_nN X.1 X.2.1 hd rfl hl (Nat.le_of_ble_eq_true hi) rfl (fun ls' hl' => K _ hk H locs ls' hP hD hS (am_l_set (u := .inr (.inr 0)) hl'))
      | succ q => exact fun H locs ls hP hD hS hl => lv_astore_n X.1 X.2.1 hd rfl hl (Nat.le_of_ble_eq_true hi) rfl (fun ls' hl' => K _ hk H locs ls' hP hD hS (am_l_set (u := .inr (.inr (q + 1))) hl'))
  · cases h
theorem am_o_astore {len pc k j : Nat} {ad : Nat → Nat} {kt : am_S → Option am_Z} {L : List (Option am_V)} {S : List am_V} {w : List am_C} {z : am_Z} {x : Nat} {T : am_T} (X : am_X p s m args c cc own Ts D cl tys A nL ca nt) (hT : am_nl T = nL) (hd : decode cc pc = .ok (.astore x, len)) (h : am_ast T len pc L S w k j kt 2 x = some z) (K : ∀ st' : am_S, kt st' = some z → am_W p l e R s m args below meth c Q D cl A ou ca nL ad st') : am_W p l e R s m args below meth c Q D cl A ou ca nL ad (pc, L, S, w, k, j) := by
  unfold am_ast at h
  split at h
  · rename_i v S'
    have hh := am_bt h
    clear h
    obtain ⟨hi, h⟩ := hh
    obtain ⟨rfl, hk⟩ := am_nx_inv h
    rw [hT] at hi
    rcases v with q | q
    · exact fun H locs ls hP hD hS hl => lv_astore X.1 X.2.1 hd hl (Nat.le_of_ble_eq_true hi) rfl (fun ls' hl' => K _ hk H locs ls' hP hD hS (am_l_set (u := .inr (.inl q)) hl'))
    · cases q with
      | zero => exact fun H locs ls hP hD hS hl => lv_astoreN X.1 X.2.1 hd hl (Nat.le_of_ble_eq_true hi) rfl (fun ls' hl' => K _ hk H locs ls' hP hD hS (am_l_set (u := .inr (.inr 0)) hl'))
      | succ q => exact fun H locs ls hP hD hS hl => lv_astore X.1 X.2.1 hd hl (Nat.le_of_ble_eq_true hi) rfl (fun ls' hl' => K _ hk H locs ls' hP hD hS (am_l_set (u := .inr (.inr (q + 1))) hl'))
  · cases h
theorem am_o_iinc {len pc k j : Nat} {ad : Nat → Nat} {kt : am_S → Option am_Z} {L : List (Option am_V)} {S : List am_V} {w : List am_C} {z : am_Z} {x : Nat} {n : Int} {T : am_T} (X : am_X p s m args c cc own Ts D cl tys A nL ca nt) (hT : am_nl T = nL) (hd : decode cc pc = .ok (.iinc x n, len)) (h : am_inc T len pc L S w k j kt x n = some z) (K : ∀ st' : am_S, kt st' = some z → am_W p l e R s m args below meth c Q D cl A ou ca nL ad st') : am_W p l e R s m args below meth c Q D cl A ou ca nL ad (pc, L, S, w, k, j) := by
  unfold am_inc at h
  split at h
  · rename_i v hg
    have hh := am_bt h
    clear h
    obtain ⟨hi, h⟩ := hh
    obtain ⟨rfl, hk⟩ := am_nx_inv h
    rw [hT] at hi
    have hm : (x, am_v ad ou (.inl v)) ∈ am_l ad ou L := am_l_mem.mpr ⟨_, am_g_ok hg, rfl⟩
    obtain ⟨k0, hk0⟩ := List.getElem?_of_mem hm
    exact fun H locs ls hP hD hS hl => lv_iinc (k := k0) (v := v + Int32.ofInt n) X.1 X.2.1 hd hl hk0 rfl (Nat.le_of_ble_eq_true hi) rfl (fun ls' hl' => K _ hk H locs ls' hP hD hS (am_l_set (u := .inl (v + Int32.ofInt n)) hl'))
  · cases h
theorem am_o_iconst {len pc k j : Nat} {ad : Nat → Nat} {kt : am_S → Option am_Z} {L : List (Option am_V)} {S : List am_V} {w : List am_C} {z : am_Z} {n : Int} (X : am_X p s m args c cc own Ts D cl tys A nL ca nt) (hd : decode cc pc = .ok (.iconst n, len)) (h : am_psh len pc L S w k j kt 1 (.inl (Int32.ofInt n)) = some z) (K : ∀ st' : am_S, kt st' = some z → am_W p l e R s m args below meth c Q D cl A ou ca nL ad st') : am_W p l e R s m args below meth c Q D cl A ou ca nL ad (pc, L, S, w, k, j) := by
  obtain ⟨rfl, hk⟩ := am_nx_inv h
  exact fun H locs ls hP hD hS hl => lv_iconst X.1 X.2.1 hd rfl (K _ hk H locs ls hP hD hS hl)
theorem am_o_bipush {len pc k j : Nat} {ad : Nat → Nat} {kt : am_S → Option am_Z} {L : List (Option am_V)} {S : List am_V} {w : List am_C} {z : am_Z} {n : Int} (X : am_X p s m args c cc own Ts D cl tys A nL ca nt) (hd : decode cc pc = .ok (.bipush n, len)) (h : am_psh len pc L S w k j kt 2 (.inl (Int8.ofInt n).toInt32) = some z) (K : ∀ st' : am_S, kt st' = some z → am_W p l e R s m args below meth c Q D cl A ou ca nL ad st') : am_W p l e R s m args below meth c Q D cl A ou ca nL ad (pc, L, S, w, k, j) := by
  obtain ⟨rfl, hk⟩ := am_nx_inv h
  exact fun H locs ls hP hD hS hl => lv_bipush X.1 X.2.1 hd rfl (K _ hk H locs ls hP hD hS hl)
theorem am_o_sipush {len pc k j : Nat} {ad : Nat → Nat} {kt : am_S → Option am_Z} {L : List (Option am_V)} {S : List am_V} {w : List am_C} {z : am_Z} {n : Int} (X : am_X p s m args c cc own Ts D cl tys A nL ca nt) (hd : decode cc pc = .ok (.sipush n, len)) (h : am_psh len pc L S w k j kt 3 (.inl (Int16.ofInt n).toInt32) = some z) (K : ∀ st' : am_S, kt st' = some z → am_W p l e R s m args below meth c Q D cl A ou ca nL ad st') : am_W p l e R s m args below meth c Q D cl A ou ca nL ad (pc, L, S, w, k, j) := by
  obtain ⟨rfl, hk⟩ := am_nx_inv h
  exact fun H locs ls hP hD hS hl => lv_sipush X.1 X.2.1 hd rfl (K _ hk H locs ls hP hD hS hl)
theorem am_o_null {len pc k j : Nat} {ad : Nat → Nat} {kt : am_S → Option am_Z} {L : List (Option am_V)} {S : List am_V} {w : List am_C} {z : am_Z}  (X : am_X p s m args c cc own Ts D cl tys A nL ca nt) (hd : decode cc pc = .ok (.aconst_null, len)) (h : am_psh len pc L S w k j kt 1 (.inr (.inr 0)) = some z) (K : ∀ st' : am_S, kt st' = some z → am_W p l e R s m args below meth c Q D cl A ou ca nL ad st') : am_W p l e R s m args below meth c Q D cl A ou ca nL ad (pc, L, S, w, k, j) := by
  obtain ⟨rfl, hk⟩ := am_nx_inv h
  exact fun H locs ls hP hD hS hl => lv_null X.1 X.2.1 hd (K _ hk H locs ls hP hD hS hl)
theorem am_o_iadd {len pc k j : Nat} {ad : Nat → Nat} {kt : am_S → Option am_Z} {L : List (Option am_V)} {S : List am_V} {w : List am_C} {z : am_Z}  (X : am_X p s m args c cc own Ts D cl tys A nL ca nt) (hd : decode cc pc = .ok (.iadd, len)) (h : am_bin len pc L S w k j kt (fun x y => x + y) = some z) (K : ∀ st' : am_S, kt st' = some z → am_W p l e R s m args below meth c Q D cl A ou ca nL ad st') : am_W p l e R s m args below meth c Q D cl A ou ca nL ad (pc, L, S, w, k, j) := by
  unfold am_bin at h
  split at h
  · obtain ⟨rfl, hk⟩ := am_nx_inv h
    exact fun H locs ls hP hD hS hl => lv_iadd X.1 X.2.1 hd (K _ hk H locs ls hP hD hS hl)
  · cases h
theorem am_o_isub {len pc k j : Nat} {ad : Nat → Nat} {kt : am_S → Option am_Z} {L : List (Option am_V)} {S : List am_V} {w : List am_C} {z : am_Z}  (X : am_X p s m args c cc own Ts D cl tys A nL ca nt) (hd : decode cc pc = .ok (.isub, len)) (h : am_bin len pc L S w k j kt (fun x y => x - y) = some z) (K : ∀ st' : am_S, kt st' = some z → am_W p l e R s m args below meth c Q D cl A ou ca nL ad st') : am_W p l e R s m args below meth c Q D cl A ou ca nL ad (pc, L, S, w, k, j) := by
  unfold am_bin at h
  split at h
  · obtain ⟨rfl, hk⟩ := am_nx_inv h
    exact fun H locs ls hP hD hS hl => lv_isub X.1 X.2.1 hd (K _ hk H locs ls hP hD hS hl)
  · cases h
theorem am_o_imul {len pc k j : Nat} {ad : Nat → Nat} {kt : am_S → Option am_Z} {L : List (Option am_V)} {S : List am_V} {w : List am_C} {z : am_Z}  (X : am_X p s m args c cc own Ts D cl tys A nL ca nt) (hd : decode cc pc = .ok (.imul, len)) (h : am_bin len pc L S w k j kt (fun x y => x * y) = some z) (K : ∀ st' : am_S, kt st' = some z → am_W p l e R s m args below meth c Q D cl A ou ca nL ad st') : am_W p l e R s m args below meth c Q D cl A ou ca nL ad (pc, L, S, w, k, j) := by
  unfold am_bin at h
  split at h
  · obtain ⟨rfl, hk⟩ := am_nx_inv h
    exact fun H locs ls hP hD hS hl => lv_imul X.1 X.2.1 hd (K _ hk H locs ls hP hD hS hl)
  · cases h
theorem am_o_iand {len pc k j : Nat} {ad : Nat → Nat} {kt : am_S → Option am_Z} {L : List (Option am_V)} {S : List am_V} {w : List am_C} {z : am_Z}  (X : am_X p s m args c cc own Ts D cl tys A nL ca nt) (hd : decode cc pc = .ok (.iand, len)) (h : am_bin len pc L S w k j kt (fun x y => x &&& y) = some z) (K : ∀ st' : am_S, kt st' = some z → am_W p l e R s m args below meth c Q D cl A ou ca nL ad st') : am_W p l e R s m args below meth c Q D cl A ou ca nL ad (pc, L, S, w, k, j) := by
  unfold am_bin at h
  split at h
  · obtain ⟨rfl, hk⟩ := am_nx_inv h
    exact fun H locs ls hP hD hS hl => lv_iand X.1 X.2.1 hd (K _ hk H locs ls hP hD hS hl)
  · cases h
theorem am_o_ior {len pc k j : Nat} {ad : Nat → Nat} {kt : am_S → Option am_Z} {L : List (Option am_V)} {S : List am_V} {w : List am_C} {z : am_Z}  (X : am_X p s m args c cc own Ts D cl tys A nL ca nt) (hd : decode cc pc = .ok (.ior, len)) (h : am_bin len pc L S w k j kt (fun x y => x ||| y) = some z) (K : ∀ st' : am_S, kt st' = some z → am_W p l e R s m args below meth c Q D cl A ou ca nL ad st') : am_W p l e R s m args below meth c Q D cl A ou ca nL ad (pc, L, S, w, k, j) := by
  unfold am_bin at h
  split at h
  · obtain ⟨rfl, hk⟩ := am_nx_inv h
    exact fun H locs ls hP hD hS hl => lv_ior X.1 X.2.1 hd (K _ hk H locs ls hP hD hS hl)
  · cases h
theorem am_o_ixor {len pc k j : Nat} {ad : Nat → Nat} {kt : am_S → Option am_Z} {L : List (Option am_V)} {S : List am_V} {w : List am_C} {z : am_Z}  (X : am_X p s m args c cc own Ts D cl tys A nL ca nt) (hd : decode cc pc = .ok (.ixor, len)) (h : am_bin len pc L S w k j kt (fun x y => x ^^^ y) = some z) (K : ∀ st' : am_S, kt st' = some z → am_W p l e R s m args below meth c Q D cl A ou ca nL ad st') : am_W p l e R s m args below meth c Q D cl A ou ca nL ad (pc, L, S, w, k, j) := by
  unfold am_bin at h
  split at h
  · obtain ⟨rfl, hk⟩ := am_nx_inv h
    exact fun H locs ls hP hD hS hl => lv_ixor X.1 X.2.1 hd (K _ hk H locs ls hP hD hS hl)
  · cases h
theorem am_o_ishl {len pc k j : Nat} {ad : Nat → Nat} {kt : am_S → Option am_Z} {L : List (Option am_V)} {S : List am_V} {w : List am_C} {z : am_Z}  (X : am_X p s m args c cc own Ts D cl tys A nL ca nt) (hd : decode cc pc = .ok (.ishl, len)) (h : am_bin len pc L S w k j kt (fun x y => x <<< (y &&& 31)) = some z) (K : ∀ st' : am_S, kt st' = some z → am_W p l e R s m args below meth c Q D cl A ou ca nL ad st') : am_W p l e R s m args below meth c Q D cl A ou ca nL ad (pc, L, S, w, k, j) := by
  unfold am_bin at h
  split at h
  · obtain ⟨rfl, hk⟩ := am_nx_inv h
    exact fun H locs ls hP hD hS hl => lv_ishl X.1 X.2.1 hd (K _ hk H locs ls hP hD hS hl)
  · cases h
theorem am_o_ishr {len pc k j : Nat} {ad : Nat → Nat} {kt : am_S → Option am_Z} {L : List (Option am_V)} {S : List am_V} {w : List am_C} {z : am_Z}  (X : am_X p s m args c cc own Ts D cl tys A nL ca nt) (hd : decode cc pc = .ok (.ishr, len)) (h : am_bin len pc L S w k j kt (fun x y => x >>> (y &&& 31)) = some z) (K : ∀ st' : am_S, kt st' = some z → am_W p l e R s m args below meth c Q D cl A ou ca nL ad st') : am_W p l e R s m args below meth c Q D cl A ou ca nL ad (pc, L, S, w, k, j) := by
  unfold am_bin at h
  split at h
  · obtain ⟨rfl, hk⟩ := am_nx_inv h
    exact fun H locs ls hP hD hS hl => lv_ishr X.1 X.2.1 hd (K _ hk H locs ls hP hD hS hl)
  · cases h
theorem am_o_iushr {len pc k j : Nat} {ad : Nat → Nat} {kt : am_S → Option am_Z} {L : List (Option am_V)} {S : List am_V} {w : List am_C} {z : am_Z}  (X : am_X p s m args c cc own Ts D cl tys A nL ca nt) (hd : decode cc pc = .ok (.iushr, len)) (h : am_bin len pc L S w k j kt (fun x y => (x.toUInt32 >>> (y.toUInt32 &&& Int32.toUInt32 31)).toInt32) = some z) (K : ∀ st' : am_S, kt st' = some z → am_W p l e R s m args below meth c Q D cl A ou ca nL ad st') : am_W p l e R s m args below meth c Q D cl A ou ca nL ad (pc, L, S, w, k, j) := by
  unfold am_bin at h
  split at h
  · obtain ⟨rfl, hk⟩ := am_nx_inv h
    exact fun H locs ls hP hD hS hl => lv_iushr X.1 X.2.1 hd rfl (K _ hk H locs ls hP hD hS hl)
  · cases h
theorem am_o_idiv {len pc k j : Nat} {ad : Nat → Nat} {kt : am_S → Option am_Z} {L : List (Option am_V)} {S : List am_V} {w : List am_C} {z : am_Z}  (X : am_X p s m args c cc own Ts D cl tys A nL ca nt) (hd : decode cc pc = .ok (.idiv, len)) (h : am_div len pc L S w k j kt (fun x y => x / y) = some z) (K : ∀ st' : am_S, kt st' = some z → am_W p l e R s m args below meth c Q D cl A ou ca nL ad st') : am_W p l e R s m args below meth c Q D cl A ou ca nL ad (pc, L, S, w, k, j) := by
  unfold am_div at h
  split at h
  · split at h
    · cases h
    · rename_i hy
      obtain ⟨rfl, hk⟩ := am_nx_inv h
      exact fun H locs ls hP hD hS hl => lv_idiv X.1 X.2.1 hd hy (K _ hk H locs ls hP hD hS hl)
  · cases h
theorem am_o_irem {len pc k j : Nat} {ad : Nat → Nat} {kt : am_S → Option am_Z} {L : List (Option am_V)} {S : List am_V} {w : List am_C} {z : am_Z}  (X : am_X p s m args c cc own Ts D cl tys A nL ca nt) (hd : decode cc pc = .ok (.irem, len)) (h : am_div len pc L S w k j kt (fun x y => x - x / y * y) = some z) (K : ∀ st' : am_S, kt st' = some z → am_W p l e R s m args below meth c Q D cl A ou ca nL ad st') : am_W p l e R s m args below meth c Q D cl A ou ca nL ad (pc, L, S, w, k, j) := by
  unfold am_div at h
  split at h
  · split at h
    · cases h
    · rename_i hy
      obtain ⟨rfl, hk⟩ := am_nx_inv h
      exact fun H locs ls hP hD hS hl => lv_irem X.1 X.2.1 hd hy (K _ hk H locs ls hP hD hS hl)
  · cases h
theorem am_o_ineg {len pc k j : Nat} {ad : Nat → Nat} {kt : am_S → Option am_Z} {L : List (Option am_V)} {S : List am_V} {w : List am_C} {z : am_Z}  (X : am_X p s m args c cc own Ts D cl tys A nL ca nt) (hd : decode cc pc = .ok (.ineg, len)) (h : am_un len pc L S w k j kt (fun x => -x) = some z) (K : ∀ st' : am_S, kt st' = some z → am_W p l e R s m args below meth c Q D cl A ou ca nL ad st') : am_W p l e R s m args below meth c Q D cl A ou ca nL ad (pc, L, S, w, k, j) := by
  unfold am_un at h
  split at h
  · obtain ⟨rfl, hk⟩ := am_nx_inv h
    exact fun H locs ls hP hD hS hl => lv_ineg X.1 X.2.1 hd (K _ hk H locs ls hP hD hS hl)
  · cases h
theorem am_o_i2c {len pc k j : Nat} {ad : Nat → Nat} {kt : am_S → Option am_Z} {L : List (Option am_V)} {S : List am_V} {w : List am_C} {z : am_Z}  (X : am_X p s m args c cc own Ts D cl tys A nL ca nt) (hd : decode cc pc = .ok (.i2c, len)) (h : am_un len pc L S w k j kt (fun x => (x.toUInt32 % 65536).toInt32) = some z) (K : ∀ st' : am_S, kt st' = some z → am_W p l e R s m args below meth c Q D cl A ou ca nL ad st') : am_W p l e R s m args below meth c Q D cl A ou ca nL ad (pc, L, S, w, k, j) := by
  unfold am_un at h
  split at h
  · obtain ⟨rfl, hk⟩ := am_nx_inv h
    exact fun H locs ls hP hD hS hl => lv_i2c X.1 X.2.1 hd rfl (K _ hk H locs ls hP hD hS hl)
  · cases h
theorem am_o_ifz {len pc k j : Nat} {ad : Nat → Nat} {kt : am_S → Option am_Z} {L : List (Option am_V)} {S : List am_V} {w : List am_C} {z : am_Z} {cd : ClassFile.Cond} {off : Int} (X : am_X p s m args c cc own Ts D cl tys A nL ca nt) (hd : decode cc pc = .ok (.ifCond cd off, len)) (h : am_ifz len pc L S w k j kt cd off = some z) (K : ∀ st' : am_S, kt st' = some z → am_W p l e R s m args below meth c Q D cl A ou ca nL ad st') : am_W p l e R s m args below meth c Q D cl A ou ca nL ad (pc, L, S, w, k, j) := by
  unfold am_ifz at h
  split at h
  · have hh := am_bt h
    clear h
    obtain ⟨h0, h⟩ := hh
    rw [Bool.and_eq_true] at h0
    have h3 : len = 3 := by simpa using h0.2
    have ht := am_tg_ok h0.1
    subst h3
    intro H locs ls hP hD hS hl
    cases cd with
    | eq =>
      dsimp only at h
      split at h
      · rename_i hc
        obtain ⟨-, -, hk⟩ := am_jp_inv h
        exact lv_if_eq X.1 X.2.1 hd ht (fun _ => K _ hk H locs ls hP hD hS hl) (fun q => absurd hc q)
      · rename_i hc
        obtain ⟨-, hk⟩ := am_nx_inv h
        exact lv_if_eq X.1 X.2.1 hd ht (fun q => absurd q hc) (fun _ => K _ hk H locs ls hP hD hS hl)
    | ne =>
      dsimp only at h
      split at h
      · rename_i hc
        obtain ⟨-, hk⟩ := am_nx_inv h
        exact lv_if_ne X.1 X.2.1 hd ht (fun q => absurd hc q) (fun _ => K _ hk H locs ls hP hD hS hl)
      · rename_i hc
        obtain ⟨-, -, hk⟩ := am_jp_inv h
        exact lv_if_ne X.1 X.2.1 hd ht (fun _ => K _ hk H locs ls hP hD hS hl) (fun q => absurd q hc)
    | lt =>
      dsimp only at h
      split at h
      · rename_i hc
        obtain ⟨-, -, hk⟩ := am_jp_inv h
        exact lv_if_lt X.1 X.2.1 hd ht (fun _ => K _ hk H locs ls hP hD hS hl) (fun q => absurd hc q)
      · rename_i hc
        obtain ⟨-, hk⟩ := am_nx_inv h
        exact lv_if_lt X.1 X.2.1 hd ht (fun q => absurd q hc) (fun _ => K _ hk H locs ls hP hD hS hl)
    | ge =>
      dsimp only at h
      split at h
      · rename_i hc
        obtain ⟨-, -, hk⟩ := am_jp_inv h
        exact lv_if_ge X.1 X.2.1 hd ht (fun _ => K _ hk H locs ls hP hD hS hl) (fun q => absurd hc q)
      · rename_i hc
        obtain ⟨-, hk⟩ := am_nx_inv h
        exact lv_if_ge X.1 X.2.1 hd ht (fun q => absurd q hc) (fun _ => K _ hk H locs ls hP hD hS hl)
    | gt =>
      dsimp only at h
      split at h
      · rename_i hc
        obtain ⟨-, -, hk⟩ := am_jp_inv h
        exact lv_if_gt X.1 X.2.1 hd ht (fun _ => K _ hk H locs ls hP hD hS hl) (fun q => absurd hc q)
      · rename_i hc
        obtain ⟨-, hk⟩ := am_nx_inv h
        exact lv_if_gt X.1 X.2.1 hd ht (fun q => absurd q hc) (fun _ => K _ hk H locs ls hP hD hS hl)
    | le =>
      dsimp only at h
      split at h
      · rename_i hc
        obtain ⟨-, -, hk⟩ := am_jp_inv h
        exact lv_if_le X.1 X.2.1 hd ht (fun _ => K _ hk H locs ls hP hD hS hl) (fun q => absurd hc q)
      · rename_i hc
        obtain ⟨-, hk⟩ := am_nx_inv h
        exact lv_if_le X.1 X.2.1 hd ht (fun q => absurd q hc) (fun _ => K _ hk H locs ls hP hD hS hl)
  · cases h
theorem am_o_icm {len pc k j : Nat} {ad : Nat → Nat} {kt : am_S → Option am_Z} {L : List (Option am_V)} {S : List am_V} {w : List am_C} {z : am_Z} {cd : ClassFile.Cond} {off : Int} (X : am_X p s m args c cc own Ts D cl tys A nL ca nt) (hd : decode cc pc = .ok (.if_icmp cd off, len)) (h : am_icm len pc L S w k j kt cd off = some z) (K : ∀ st' : am_S, kt st' = some z → am_W p l e R s m args below meth c Q D cl A ou ca nL ad st') : am_W p l e R s m args below meth c Q D cl A ou ca nL ad (pc, L, S, w, k, j) := by
  unfold am_icm at h
  split at h
  · have hh := am_bt h
    clear h
    obtain ⟨h0, h⟩ := hh
    rw [Bool.and_eq_true] at h0
    have h3 : len = 3 := by simpa using h0.2
    have ht := am_tg_ok h0.1
    subst h3
    intro H locs ls hP hD hS hl
    cases cd with
    | eq =>
      dsimp only at h
      split at h
      · rename_i hc
        obtain ⟨-, -, hk⟩ := am_jp_inv h
        exact lv_icmp_eq X.1 X.2.1 hd ht (fun _ => K _ hk H locs ls hP hD hS hl) (fun q => absurd hc q)
      · rename_i hc
        obtain ⟨-, hk⟩ := am_nx_inv h
        exact lv_icmp_eq X.1 X.2.1 hd ht (fun q => absurd q hc) (fun _ => K _ hk H locs ls hP hD hS hl)
    | ne =>
      dsimp only at h
      split at h
      · rename_i hc
        obtain ⟨-, hk⟩ := am_nx_inv h
        exact lv_icmp_ne X.1 X.2.1 hd ht (fun q => absurd hc q) (fun _ => K _ hk H locs ls hP hD hS hl)
      · rename_i hc
        obtain ⟨-, -, hk⟩ := am_jp_inv h
        exact lv_icmp_ne X.1 X.2.1 hd ht (fun _ => K _ hk H locs ls hP hD hS hl) (fun q => absurd q hc)
    | lt =>
      dsimp only at h
      split at h
      · rename_i hc
        obtain ⟨-, -, hk⟩ := am_jp_inv h
        exact lv_icmp_lt X.1 X.2.1 hd ht (fun _ => K _ hk H locs ls hP hD hS hl) (fun q => absurd hc q)
      · rename_i hc
        obtain ⟨-, hk⟩ := am_nx_inv h
        exact lv_icmp_lt X.1 X.2.1 hd ht (fun q => absurd q hc) (fun _ => K _ hk H locs ls hP hD hS hl)
    | ge =>
      dsimp only at h
      split at h
      · rename_i hc
        obtain ⟨-, -, hk⟩ := am_jp_inv h
        exact lv_icmp_ge X.1 X.2.1 hd ht (fun _ => K _ hk H locs ls hP hD hS hl) (fun q => absurd hc q)
      · rename_i hc
        obtain ⟨-, hk⟩ := am_nx_inv h
        exact lv_icmp_ge X.1 X.2.1 hd ht (fun q => absurd q hc) (fun _ => K _ hk H locs ls hP hD hS hl)
    | gt =>
      dsimp only at h
      split at h
      · rename_i hc
        obtain ⟨-, -, hk⟩ := am_jp_inv h
        exact lv_icmp_gt X.1 X.2.1 hd ht (fun _ => K _ hk H locs ls hP hD hS hl) (fun q => absurd hc q)
      · rename_i hc
        obtain ⟨-, hk⟩ := am_nx_inv h
        exact lv_icmp_gt X.1 X.2.1 hd ht (fun q => absurd q hc) (fun _ => K _ hk H locs ls hP hD hS hl)
    | le =>
      dsimp only at h
      split at h
      · rename_i hc
        obtain ⟨-, -, hk⟩ := am_jp_inv h
        exact lv_icmp_le X.1 X.2.1 hd ht (fun _ => K _ hk H locs ls hP hD hS hl) (fun q => absurd hc q)
      · rename_i hc
        obtain ⟨-, hk⟩ := am_nx_inv h
        exact lv_icmp_le X.1 X.2.1 hd ht (fun q => absurd q hc) (fun _ => K _ hk H locs ls hP hD hS hl)
  · cases h
theorem am_o_goto {len pc k j : Nat} {ad : Nat → Nat} {kt : am_S → Option am_Z} {L : List (Option am_V)} {S : List am_V} {w : List am_C} {z : am_Z} {off : Int} (X : am_X p s m args c cc own Ts D cl tys A nL ca nt) (hd : decode cc pc = .ok (.goto off, len)) (h : am_jp len pc L w k j kt off S = some z) (K : ∀ st' : am_S, kt st' = some z → am_W p l e R s m args below meth c Q D cl A ou ca nL ad st') : am_W p l e R s m args below meth c Q D cl A ou ca nL ad (pc, L, S, w, k, j) := by
  obtain ⟨rfl, ht, hk⟩ := am_jp_inv h
  exact fun H locs ls hP hD hS hl => lv_goto X.1 X.2.1 hd ht (K _ hk H locs ls hP hD hS hl)
theorem am_sw_inv {x : Int32} {ps : List (Int × Int)} {d : Int} {f : Int → Option am_Z} {z : am_Z} (h : am_sw x ps d f = some z) : (∃ q ∈ ps, x = Int32.ofInt q.1 ∧ f q.2 = some z ∧ ∃ pre suf, ps = pre ++ q :: suf ∧ ∀ r ∈ pre, ¬ x = Int32.ofInt r.1) ∨ ((∀ q ∈ ps, ¬ x = Int32.ofInt q.1) ∧ f d = some z) := by
  induction ps with
  | nil => exact Or.inr ⟨fun q hq => absurd hq List.not_mem_nil, h⟩
  | cons q r ih =>
    unfold am_sw at h
    split at h
    · rename_i hc
      exact Or.inl ⟨q, List.mem_cons_self, hc, h, [], r, rfl, fun r hr => absurd hr List.not_mem_nil⟩
    · rename_i hc
      rcases ih h with ⟨q', hm, h1, h2, pre, suf, he, hn⟩ | ⟨h1, h2⟩
      · refine Or.inl ⟨q', List.mem_cons_of_mem _ hm, h1, h2, q :: pre, suf, by rw [he]; rfl, fun r' hr' => ?_⟩
        rcases List.mem_cons.mp hr' with h3 | h3
        · rw [h3]; exact hc
        · exact hn r' h3
      · refine Or.inr ⟨fun q' hq' => ?_, h2⟩
        rcases List.mem_cons.mp hq' with h3 | h3
        · rw [h3]; exact hc
        · exact h1 q' h3
theorem am_r31_ok {x : Int} (h : am_r31 x = true) : (Int32.ofInt x).toInt = x := by
  simp only [am_r31, Bool.and_eq_true, decide_eq_true_eq] at h
  rw [Int32.toInt_ofInt]
  have hs : Int32.size = 4294967296 := rfl
  exact Int.bmod_eq_of_le (by omega) (by omega)
theorem am_tps_mem {lo : Int} {l : List Int} {q : Int × Int} (h : q ∈ am_tps lo l) : ∃ i : Nat, i < l.length ∧ q.1 = lo + i ∧ l[i]? = some q.2 := by
  induction l generalizing lo with
  | nil => cases h
  | cons o r ih =>
    rcases List.mem_cons.mp h with h1 | h1
    · subst h1
      exact ⟨0, by simp, by simp, rfl⟩
    · obtain ⟨i, h2, h3, h4⟩ := ih h1
      exact ⟨i + 1, by simpa using h2, by rw [h3]; omega, by simpa using h4⟩
theorem am_tps_all {lo : Int} {l : List Int} {i : Nat} {o : Int} (h : l[i]? = some o) : (lo + i, o) ∈ am_tps lo l := by
  induction l generalizing lo i with
  | nil => cases h
  | cons a r ih =>
    cases i with
    | zero =>
      have h1 : a = o := Option.some.inj h
      subst h1
      have h2 : lo + ((0 : Nat) : Int) = lo := by omega
      rw [h2]
      exact List.mem_cons_self
    | succ i =>
      have h1 := ih (lo := lo + 1) (i := i) (by simpa using h)
      have h2 : lo + 1 + (i : Int) = lo + ((i + 1 : Nat) : Int) := by omega
      rw [h2] at h1
      exact List.mem_cons_of_mem _ h1
theorem am_jw_inv {pc k j : Nat} {off : Int} {kt : am_S → Option am_Z} {L : List (Option am_V)} {S : List am_V} {w : List am_C} {z : am_Z} (h : am_jw pc L w k j kt off S = some z) : (pc : Int) + off = (am_tg pc off : Int) ∧ kt (am_tg pc off, L, S, w, k, j) = some z := by
  obtain ⟨h1, h2⟩ := am_bt h
  exact ⟨am_tg_ok h1, h2⟩
theorem am_o_tsw {len pc k j : Nat} {ad : Nat → Nat} {kt : am_S → Option am_Z} {L : List (Option am_V)} {S : List am_V} {w : List am_C} {z : am_Z} {d lo hi : Int} {offs : Array Int} (X : am_X p s m args c cc own Ts D cl tys A nL ca nt) (hd : decode cc pc = .ok (.tableswitch d lo hi offs, len)) (h : am_tsw pc L S w k j kt d lo hi offs.toList = some z) (K : ∀ st' : am_S, kt st' = some z → am_W p l e R s m args below meth c Q D cl A ou ca nL ad st') : am_W p l e R s m args below meth c Q D cl A ou ca nL ad (pc, L, S, w, k, j) := by
  unfold am_tsw at h
  split at h
  · rename_i x S'
    have hh := am_bt h
    clear h
    obtain ⟨h0, h⟩ := hh
    simp only [Bool.and_eq_true, beq_iff_eq] at h0
    obtain ⟨⟨h1, h2⟩, h3⟩ := h0
    have r1 := h1
    have r2 := h2
    simp only [am_r31, Bool.and_eq_true, decide_eq_true_eq] at r1 r2
    intro H locs ls hP hD hS hl
    rcases am_sw_inv h with ⟨q, hm, hx, hf, -⟩ | ⟨hn, hf⟩
    · obtain ⟨ht, hk⟩ := am_jw_inv hf
      obtain ⟨i, hi, e1, e2⟩ := am_tps_mem hm
      have hi2 : (i : Int) < offs.toList.length := by omega
      have e3 : x.toInt = lo + i := by
        rw [hx, e1]
        exact am_r31_ok (by simp only [am_r31, Bool.and_eq_true, decide_eq_true_eq]; omega)
      refine lv_tableIn X.1 X.2.1 hd (by omega) (by omega) ?_ ht (K _ hk H locs ls hP hD hS hl)
      rw [show (x.toInt - lo).toNat = i by omega, ← Array.getElem?_toList]
      exact e2
    · obtain ⟨ht, hk⟩ := am_jw_inv hf
      refine lv_tableOut X.1 X.2.1 hd ?_ ht (K _ hk H locs ls hP hD hS hl)
      by_cases hq : x.toInt < lo ∨ hi < x.toInt
      · exact hq
      · exfalso
        have hlt : (x.toInt - lo).toNat < offs.toList.length := by omega
        have hg := List.getElem?_eq_getElem hlt
        refine hn _ (am_tps_all (lo := lo) hg) ?_
        apply Int32.toInt_inj.mp
        rw [am_r31_ok (by simp only [am_r31, Bool.and_eq_true, decide_eq_true_eq]; omega)]
        omega
  · cases h
theorem am_lo_off {x : Int32} {ps : List (Int × Int)} {d : Int} (hr : ∀ q ∈ ps, am_r31 q.1 = true) : (∀ {q : Int × Int} {pre suf : List (Int × Int)}, ps = pre ++ q :: suf → (∀ r ∈ pre, ¬ x = Int32.ofInt r.1) → x = Int32.ofInt q.1 → Op.lookupswitch.offset ps d x.toInt = q.2) ∧ ((∀ q ∈ ps, ¬ x = Int32.ofInt q.1) → Op.lookupswitch.offset ps d x.toInt = d) := by
  induction ps with
  | nil =>
    refine ⟨fun {q pre suf} he => ?_, fun _ => by simp [Op.lookupswitch.offset]⟩
    simp at he
  | cons a r ih =>
    have ih := ih (fun q hq => hr q (List.mem_cons_of_mem _ hq))
    have ha := am_r31_ok (hr a List.mem_cons_self)
    constructor
    · intro q pre suf he hn hx
      cases pre with
      | nil =>
        simp only [List.nil_append, List.cons.injEq] at he
        obtain ⟨rfl, rfl⟩ := he
        rw [hx, ha]
        simp [Op.lookupswitch.offset]
      | cons b pre =>
        simp only [List.cons_append, List.cons.injEq] at he
        obtain ⟨rfl, he⟩ := he
        have hne : ¬ x = Int32.ofInt a.1 := hn a List.mem_cons_self
        have h1 := lv_osw (x := x) (k := Int32.ofInt a.1) (a := a.1) (o := a.2) (d := d) (r := r) hne ha
        rw [show a = (a.1, a.2) from rfl, h1]
        exact ih.1 he (fun r hr => hn r (List.mem_cons_of_mem _ hr)) hx
    · intro hn
      have hne : ¬ x = Int32.ofInt a.1 := hn a List.mem_cons_self
      have h1 := lv_osw (x := x) (k := Int32.ofInt a.1) (a := a.1) (o := a.2) (d := d) (r := r) hne ha
      rw [show a = (a.1, a.2) from rfl, h1]
      exact ih.2 (fun q hq => hn q (List.mem_cons_of_mem _ hq))
theorem am_o_lsw {len pc k j : Nat} {ad : Nat → Nat} {kt : am_S → Option am_Z} {L : List (Option am_V)} {S : List am_V} {w : List am_C} {z : am_Z} {d : Int} {ps : Array (Int × Int)} (X : am_X p s m args c cc own Ts D cl tys A nL ca nt) (hd : decode cc pc = .ok (.lookupswitch d ps, len)) (h : am_lsw pc L S w k j kt d ps.toList = some z) (K : ∀ st' : am_S, kt st' = some z → am_W p l e R s m args below meth c Q D cl A ou ca nL ad st') : am_W p l e R s m args below meth c Q D cl A ou ca nL ad (pc, L, S, w, k, j) := by
  unfold am_lsw at h
  split at h
  · rename_i x S'
    have hh := am_bt h
    clear h
    obtain ⟨h0, h⟩ := hh
    rw [Bool.and_eq_true] at h0
    have hr : ∀ q ∈ ps.toList, am_r31 q.1 = true := List.all_eq_true.mp h0.1
    intro H locs ls hP hD hS hl
    rcases am_sw_inv h with ⟨q, hm, hx, hf, pre, suf, he, hn⟩ | ⟨hn, hf⟩
    · obtain ⟨ht, hk⟩ := am_jw_inv hf
      exact lv_lookup X.1 X.2.1 hd h0.2 ((am_lo_off hr).1 he hn hx) ht (K _ hk H locs ls hP hD hS hl)
    · obtain ⟨ht, hk⟩ := am_jw_inv hf
      exact lv_lookup X.1 X.2.1 hd h0.2 ((am_lo_off hr).2 hn) ht (K _ hk H locs ls hP hD hS hl)
  · cases h
/-- what a field's pool entry is -/
def am_FK (s : State) (args : Array Value) (meth : Method) (own : String) (Ts : List Jvm.Cond) (cl : List vw_C) (fty : Nat → Nat → FieldType) (index ci fi mode : Nat) : Prop :=
  ∃ (C : String) (F : u_T) (N : Nat) (ty0 : Nat → FieldType), cl[ci]? = some (C, F, N) ∧ fi < N ∧ (∀ w ∈ u_ws C F N, w ∈ Ts) ∧ (∀ k, k < N → parseFieldDescriptor (F k).2.2.1 = some (ty0 k)) ∧ (∀ a, a < N → ∀ b, b < N → a ≠ b → (F a).2.1 ≠ (F b).2.1) ∧ ty0 fi = fty ci fi ∧
    (¬ (mode = 1 ∨ mode = 4) → (Jvm.Cond.fieldLink own index (F fi).1 (F fi).2.1 (F fi).2.2.1).before args s = true) ∧ (mode = 1 ∨ mode = 4 → ∃ host, (Jvm.Cond.fieldLinkNest own index (F fi).1 (F fi).2.1 (F fi).2.2.1 host).before args s = true) ∧
    (mode = 0 ∨ mode = 1 → (F fi).2.2.2 = false) ∧ (mode = 2 → (F fi).2.2.2 = true ∧ meth.name = "<init>" ∧ (F fi).1 = own)
theorem am_o_gtf {len pc k j : Nat} {ad : Nat → Nat} {kt : am_S → Option am_Z} {L : List (Option am_V)} {S : List am_V} {w : List am_C} {z : am_Z} {x : Nat} {T : am_T} (X : am_X p s m args c cc own Ts D cl tys A nL ca nt) (hF : ∀ index ci fi mode, T.2.1 index = some (ci, fi, mode) → am_FK s args meth own Ts cl T.2.2.1 index ci fi mode) (hd : decode cc pc = .ok (.getfield x, len)) (h : am_gtf T len pc L S w k j kt x = some z) (K : ∀ st' : am_S, kt st' = some z → am_W p l e R s m args below meth c Q D cl A ou ca nL ad st') : am_W p l e R s m args below meth c Q D cl A ou ca nL ad (pc, L, S, w, k, j) := by
  unfold am_gtf at h
  split at h
  · rename_i q S'
    cases hw : w[q]? with
    | none => rw [hw] at h; cases h
    | some y =>
      cases hT : T.2.1 x with
      | none => rw [hw, hT] at h; rcases y with y | y <;> cases h
      | some u =>
        obtain ⟨cj, fi, mode⟩ := u
        rw [hw, hT] at h
        rcases y with y | ⟨ci, fs⟩
        · cases h
        · dsimp only at h
          have hh := am_bt h
          clear h
          obtain ⟨h0, h⟩ := hh
          rw [Bool.and_eq_true] at h0
          have hci : ci = cj := by simpa using h0.1
          subst hci
          cases hv : fs[fi]? with
          | none => rw [hv] at h; cases h
          | some v =>
            rw [hv] at h
            obtain ⟨rfl, hk⟩ := am_nx_inv h
            obtain ⟨C, F, N, ty0, hc, hfi, hin, hty, hnm, -, hl0, hl1, -, -⟩ := hF x ci fi mode hT
            have hv' : (fs.map (am_v ad ou))[fi]? = some (am_v ad ou v) := by rw [List.getElem?_map, hv]; rfl
            intro H locs ls hP hD hS hl
            by_cases hm : mode = 1 ∨ mode = 4
            · obtain ⟨host, hlk⟩ := hl1 hm
              exact va_getN X.1 X.2.1 X.2.2.2.2.1 hin X.2.2.2.1 X.2.2.2.2.2.1 hP q (am_w_get hw) hc fi hfi hlk (fun _ h9 => h9) hv' hd (K _ hk H locs ls hP hD hS hl)
            · exact va_get X.1 X.2.1 X.2.2.2.2.1 hin X.2.2.2.1 X.2.2.2.2.2.1 hP q (am_w_get hw) hc fi hfi (hl0 hm) (fun _ h9 => h9) hv' hd (K _ hk H locs ls hP hD hS hl)
  · cases h
theorem am_o_ptf {len pc k j : Nat} {ad : Nat → Nat} {kt : am_S → Option am_Z} {L : List (Option am_V)} {S : List am_V} {w : List am_C} {z : am_Z} {x : Nat} {T : am_T} (X : am_X p s m args c cc own Ts D cl tys A nL ca nt) (hF : ∀ index ci fi mode, T.2.1 index = some (ci, fi, mode) → am_FK s args meth own Ts cl T.2.2.1 index ci fi mode) (hd : decode cc pc = .ok (.putfield x, len)) (h : am_ptf T len pc L S w k j kt x = some z) (K : ∀ st' : am_S, kt st' = some z → am_W p l e R s m args below meth c Q D cl A ou ca nL ad st') : am_W p l e R s m args below meth c Q D cl A ou ca nL ad (pc, L, S, w, k, j) := by
  unfold am_ptf at h
  split at h
  · rename_i v q S'
    cases hw : w[q]? with
    | none => rw [hw] at h; cases h
    | some y =>
      cases hT : T.2.1 x with
      | none => rw [hw, hT] at h; rcases y with y | y <;> cases h
      | some u =>
        obtain ⟨cj, fi, mode⟩ := u
        rw [hw, hT] at h
        rcases y with y | ⟨ci, fs⟩
        · cases h
        · dsimp only at h
          have hh := am_bt h
          clear h
          obtain ⟨h0, h⟩ := hh
          simp only [Bool.and_eq_true] at h0
          obtain ⟨⟨h1, h2⟩, h3⟩ := h0
          have hh := am_fic_inv h
          clear h
          obtain ⟨h4, h⟩ := hh
          have hci : ci = cj := by simpa using h1
          subst hci
          have hlt : fi < fs.length := Nat.le_of_ble_eq_true h3
          obtain ⟨rfl, hk⟩ := am_nx_inv h
          obtain ⟨C, F, N, ty0, hc, hfi, hin, hty, hnm, hft, hl0, hl1, hm0, hm2⟩ := hF x ci fi mode hT
          obtain ⟨f1, f2⟩ := am_fit_ok ad ou h4
          have hlt' : fi < (fs.map (am_v ad ou)).length := by rw [List.length_map]; exact hlt
          have hset : am_w ad ou ca (w.set q (.inr (ci, fs.set fi v))) = (am_w ad ou ca w).set q (ad q, .inr (ci, (fs.map (am_v ad ou)).set fi (am_v ad ou v))) := by
            rw [am_w_set]
            simp only [am_e, List.map_set]
          have hpd : parseFieldDescriptor (F fi).2.2.1 = some (T.2.2.1 ci fi) := by rw [← hft]; exact hty fi hfi
          intro H locs ls hP hD hS hl
          have hmode : mode = 0 ∨ mode = 1 ∨ mode = 2 := by
            have := Nat.le_of_ble_eq_true h2
            omega
          rcases hmode with rfl | rfl | rfl
          · exact va_put X.1 X.2.1 X.2.2.2.2.1 hin ty0 hty hnm X.2.2.2.1 X.2.2.2.2.2.1 hP hD hS q (am_w_get hw) hc fi hfi (hl0 (by decide)) (fun _ h9 => h9) (hm0 (Or.inl rfl)) hpd f1 f2 hlt' hd (fun H1 locs1 hP1 hD1 hS1 => K _ hk H1 locs1 ls (by rw [hset]; exact hP1) (by rw [hset]; exact hD1) hS1 hl)
          · obtain ⟨host, hlk⟩ := hl1 (Or.inl rfl)
            exact va_putN X.1 X.2.1 X.2.2.2.2.1 hin ty0 hty hnm X.2.2.2.1 X.2.2.2.2.2.1 hP hD hS q (am_w_get hw) hc fi hfi hlk (fun _ h9 => h9) (hm0 (Or.inr rfl)) hpd f1 f2 hlt' hd (fun H1 locs1 hP1 hD1 hS1 => K _ hk H1 locs1 ls (by rw [hset]; exact hP1) (by rw [hset]; exact hD1) hS1 hl)
          · obtain ⟨g1, g2, g3⟩ := hm2 rfl
            exact va_putF X.1 X.2.1 X.2.2.2.2.1 hin ty0 hty hnm X.2.2.2.1 X.2.2.2.2.2.1 hP hD hS q (am_w_get hw) hc fi hfi (hl0 (by decide)) (fun _ h9 => h9) g1 g2 g3 hpd f1 f2 hlt' hd (fun H1 locs1 hP1 hD1 hS1 => K _ hk H1 locs1 ls (by rw [hset]; exact hP1) (by rw [hset]; exact hD1) hS1 hl)
  · cases h
theorem am_o_arli {len pc k j : Nat} {ad : Nat → Nat} {kt : am_S → Option am_Z} {L : List (Option am_V)} {S : List am_V} {w : List am_C} {z : am_Z} {T : am_T} (X : am_X p s m args c cc own Ts D cl tys A nL ca nt) (hnt : am_nt T = nt) (hO : ∀ o n f, T.2.2.2.2.2.2.1 o = some (n, f) → va_X (ou o) n f s s.heap ∧ ou o < s.heap.size ∧ ¬ A (ou o)) (hd : decode cc pc = .ok (.iaload, len)) (h : am_arl T len pc L S w k j kt 0 = some z) (K : ∀ st' : am_S, kt st' = some z → am_W p l e R s m args below meth c Q D cl A ou ca nL ad st') : am_W p l e R s m args below meth c Q D cl A ou ca nL ad (pc, L, S, w, k, j) := by
  unfold am_arl at h
  split at h
  · rename_i i q S'
    cases hw : w[q]? with
    | none => rw [hw] at h; cases h
    | some y =>
      rw [hw] at h
      rcases y with ⟨t, n, f⟩ | y
      · dsimp only at h
        have hh := am_bt h
        clear h
        obtain ⟨h0, h⟩ := hh
        rw [Bool.and_eq_true, hnt] at h0
        have ht : t = 0 := by simpa using h0.1
        subst ht
        have hh := am_chk_inv h
        clear h
        obtain ⟨h1, h⟩ := hh
        obtain ⟨rfl, hk⟩ := am_nx_inv h
        exact fun H locs ls hP hD hS hl => va_iald X.1 X.2.1 X.2.2.2.2.2.1 hP q 0 (am_w_get hw) (X.2.2.2.2.2.2.2.1 0 (Nat.le_of_ble_eq_true h0.2)) (am_inb_ok h1) hd (K _ hk H locs ls hP hD hS hl)
      · cases h
  · rename_i i o S'
    cases hT : T.2.2.2.2.2.2.1 o with
    | none => rw [hT] at h; cases h
    | some y =>
      rw [hT] at h
      obtain ⟨n, f⟩ := y
      dsimp only at h
      have hh := am_bt h
      clear h
      obtain ⟨h0, h⟩ := hh
      have hh := am_chk_inv h
      clear h
      obtain ⟨h1, h⟩ := hh
      obtain ⟨rfl, hk⟩ := am_nx_inv h
      obtain ⟨g1, g2, g3⟩ := hO o n f hT
      exact fun H locs ls hP hD hS hl => va_sld X.1 X.2.1 g1 g2 g3 hS (am_inb_ok h1) hd (K _ hk H locs ls hP hD hS hl)
  · cases h
theorem am_o_arlc {len pc k j : Nat} {ad : Nat → Nat} {kt : am_S → Option am_Z} {L : List (Option am_V)} {S : List am_V} {w : List am_C} {z : am_Z} {T : am_T} (X : am_X p s m args c cc own Ts D cl tys A nL ca nt) (hnt : am_nt T = nt) (hO : ∀ o n f, T.2.2.2.2.2.2.1 o = some (n, f) → va_X (ou o) n f s s.heap ∧ ou o < s.heap.size ∧ ¬ A (ou o)) (hd : decode cc pc = .ok (.caload, len)) (h : am_arl T len pc L S w k j kt 1 = some z) (K : ∀ st' : am_S, kt st' = some z → am_W p l e R s m args below meth c Q D cl A ou ca nL ad st') : am_W p l e R s m args below meth c Q D cl A ou ca nL ad (pc, L, S, w, k, j) := by
  unfold am_arl at h
  split at h
  · rename_i i q S'
    cases hw : w[q]? with
    | none => rw [hw] at h; cases h
    | some y =>
      rw [hw] at h
      rcases y with ⟨t, n, f⟩ | y
      · dsimp only at h
        have hh := am_bt h
        clear h
        obtain ⟨h0, h⟩ := hh
        rw [Bool.and_eq_true, hnt] at h0
        have ht : t = 1 := by simpa using h0.1
        subst ht
        have hh := am_chk_inv h
        clear h
        obtain ⟨h1, h⟩ := hh
        obtain ⟨rfl, hk⟩ := am_nx_inv h
        exact fun H locs ls hP hD hS hl => va_cald X.1 X.2.1 X.2.2.2.2.2.1 hP q 1 (am_w_get hw) (X.2.2.2.2.2.2.2.1 1 (Nat.le_of_ble_eq_true h0.2)) (am_inb_ok h1) hd (K _ hk H locs ls hP hD hS hl)
      · cases h
  · rename_i i o S'
    cases hT : T.2.2.2.2.2.2.1 o with
    | none => rw [hT] at h; cases h
    | some y =>
      rw [hT] at h
      obtain ⟨n, f⟩ := y
      dsimp only at h
      have hh := am_bt h
      clear h
      obtain ⟨h0, h⟩ := hh
      cases h0
  · cases h
theorem am_o_arsi {len pc k j : Nat} {ad : Nat → Nat} {kt : am_S → Option am_Z} {L : List (Option am_V)} {S : List am_V} {w : List am_C} {z : am_Z} {T : am_T} (X : am_X p s m args c cc own Ts D cl tys A nL ca nt) (hnt : am_nt T = nt) (hd : decode cc pc = .ok (.iastore, len)) (h : am_ars T len pc L S w k j kt 0 = some z) (K : ∀ st' : am_S, kt st' = some z → am_W p l e R s m args below meth c Q D cl A ou ca nL ad st') : am_W p l e R s m args below meth c Q D cl A ou ca nL ad (pc, L, S, w, k, j) := by
  unfold am_ars at h
  split at h
  · rename_i x i q S'
    cases hw : w[q]? with
    | none => rw [hw] at h; cases h
    | some y =>
      rw [hw] at h
      rcases y with ⟨t, n, f⟩ | y
      · dsimp only at h
        have hh := am_bt h
        clear h
        obtain ⟨h0, h⟩ := hh
        rw [Bool.and_eq_true, hnt] at h0
        have ht : t = 0 := by simpa using h0.1
        subst ht
        have hh := am_chk_inv h
        clear h
        obtain ⟨h1, h⟩ := hh
        obtain ⟨rfl, hk⟩ := am_nx_inv h
        exact fun H locs ls hP hD hS hl => va_iast X.1 X.2.1 X.2.2.2.2.2.1 hP hD hS q 0 (am_w_get hw) (X.2.2.2.2.2.2.2.1 0 (Nat.le_of_ble_eq_true h0.2)) (am_inb_ok h1) hd (fun H1 locs1 hP1 hD1 hS1 => K _ hk H1 locs1 ls (by dsimp only; rw [am_w_set]; exact hP1) (by dsimp only; rw [am_w_set]; exact hD1) hS1 hl)
      · cases h
  · cases h
theorem am_o_arsc {len pc k j : Nat} {ad : Nat → Nat} {kt : am_S → Option am_Z} {L : List (Option am_V)} {S : List am_V} {w : List am_C} {z : am_Z} {T : am_T} (X : am_X p s m args c cc own Ts D cl tys A nL ca nt) (hnt : am_nt T = nt) (hd : decode cc pc = .ok (.castore, len)) (h : am_ars T len pc L S w k j kt 1 = some z) (K : ∀ st' : am_S, kt st' = some z → am_W p l e R s m args below meth c Q D cl A ou ca nL ad st') : am_W p l e R s m args below meth c Q D cl A ou ca nL ad (pc, L, S, w, k, j) := by
  unfold am_ars at h
  split at h
  · rename_i x i q S'
    cases hw : w[q]? with
    | none => rw [hw] at h; cases h
    | some y =>
      rw [hw] at h
      rcases y with ⟨t, n, f⟩ | y
      · dsimp only at h
        have hh := am_bt h
        clear h
        obtain ⟨h0, h⟩ := hh
        rw [Bool.and_eq_true, hnt] at h0
        have ht : t = 1 := by simpa using h0.1
        subst ht
        have hh := am_chk_inv h
        clear h
        obtain ⟨h1, h⟩ := hh
        obtain ⟨rfl, hk⟩ := am_nx_inv h
        exact fun H locs ls hP hD hS hl => va_cast X.1 X.2.1 X.2.2.2.2.2.1 hP hD hS q 1 (am_w_get hw) (X.2.2.2.2.2.2.2.1 1 (Nat.le_of_ble_eq_true h0.2)) (am_inb_ok h1) hd (fun H1 locs1 hP1 hD1 hS1 => K _ hk H1 locs1 ls (by dsimp only; rw [am_w_set]; exact hP1) (by dsimp only; rw [am_w_set]; exact hD1) hS1 hl)
      · cases h
  · cases h
theorem am_o_aln {len pc k j : Nat} {ad : Nat → Nat} {kt : am_S → Option am_Z} {L : List (Option am_V)} {S : List am_V} {w : List am_C} {z : am_Z} {T : am_T} (X : am_X p s m args c cc own Ts D cl tys A nL ca nt) (hnt : am_nt T = nt) (hO : ∀ o n f, T.2.2.2.2.2.2.1 o = some (n, f) → va_X (ou o) n f s s.heap ∧ ou o < s.heap.size ∧ ¬ A (ou o)) (hd : decode cc pc = .ok (.arraylength, len)) (h : am_aln T len pc L S w k j kt = some z) (K : ∀ st' : am_S, kt st' = some z → am_W p l e R s m args below meth c Q D cl A ou ca nL ad st') : am_W p l e R s m args below meth c Q D cl A ou ca nL ad (pc, L, S, w, k, j) := by
  unfold am_aln at h
  split at h
  · rename_i q S'
    cases hw : w[q]? with
    | none => rw [hw] at h; cases h
    | some y =>
      rw [hw] at h
      rcases y with ⟨t, n, f⟩ | y
      · dsimp only at h
        have hh := am_bt h
        clear h
        obtain ⟨h0, h⟩ := hh
        rw [hnt] at h0
        obtain ⟨rfl, hk⟩ := am_nx_inv h
        exact fun H locs ls hP hD hS hl => va_alen X.1 X.2.1 X.2.2.2.2.2.1 hP q t (am_w_get hw) (X.2.2.2.2.2.2.2.1 t (Nat.le_of_ble_eq_true h0)) rfl hd (K _ hk H locs ls hP hD hS hl)
      · cases h
  · rename_i o S'
    cases hT : T.2.2.2.2.2.2.1 o with
    | none => rw [hT] at h; cases h
    | some y =>
      rw [hT] at h
      obtain ⟨n, f⟩ := y
      obtain ⟨rfl, hk⟩ := am_nx_inv h
      obtain ⟨g1, g2, g3⟩ := hO o n f hT
      exact fun H locs ls hP hD hS hl => va_slen X.1 X.2.1 g1 g2 g3 hS hd (K _ hk H locs ls hP hD hS hl)
  · cases h
/-! other addresses for new places -/
theorem am_v_ag {n : Nat} {ad ad' ou : Nat → Nat} {v : am_V} (h : ∀ i, i < n → ad' i = ad i) (hv : am_lo n v = true) : am_v ad' ou v = am_v ad ou v := by
  rcases v with x | q | q
  · rfl
  · have h1 : q < n := Nat.le_of_ble_eq_true hv
    show Value.ref (ad' q) = Value.ref (ad q)
    rw [h q h1]
  · cases q <;> rfl
theorem am_e_ag {n : Nat} {ad ad' ou : Nat → Nat} {ca : Nat → ClassId} {x : am_C} (h : ∀ i, i < n → ad' i = ad i) (hx : am_loC n x = true) : am_e ad' ou ca x = am_e ad ou ca x := by
  rcases x with ⟨t, m, f⟩ | ⟨c, fs⟩
  · rfl
  · have h1 : fs.map (am_v ad' ou) = fs.map (am_v ad ou) := List.map_congr_left (fun v hv => am_v_ag h (List.all_eq_true.mp hx v hv))
    simp only [am_e, h1]
theorem am_w_ag {n : Nat} {ad ad' ou : Nat → Nat} {ca : Nat → ClassId} {w : List am_C} (h : ∀ i, i < n → ad' i = ad i) (hn : w.length ≤ n) (hw : w.all (am_loC n) = true) : am_w ad' ou ca w = am_w ad ou ca w := by
  apply List.ext_getElem?
  intro i
  cases hi : w[i]? with
  | none => simp [am_w, List.getElem?_mapIdx, hi]
  | some x =>
    rw [am_w_get hi, am_w_get hi]
    have h1 : i < w.length := (List.getElem?_eq_some_iff.mp hi).1
    rw [h i (by omega), am_e_ag h (List.all_eq_true.mp hw x (List.mem_of_getElem? hi))]
theorem am_s_ag {n : Nat} {ad ad' ou : Nat → Nat} {S : List am_V} (h : ∀ i, i < n → ad' i = ad i) (hS : S.all (am_lo n) = true) : S.map (am_v ad' ou) = S.map (am_v ad ou) := List.map_congr_left (fun v hv => am_v_ag h (List.all_eq_true.mp hS v hv))
theorem am_l_ag {n : Nat} {ad ad' ou : Nat → Nat} {L : List (Option am_V)} {ls : Array Slot} {nL : Nat} (h : ∀ i, i < n → ad' i = ad i) (hL : L.all (am_loO n) = true) (hl : lv_has ls nL (am_l ad ou L)) : lv_has ls nL (am_l ad' ou L) := by
  refine ⟨hl.1, hl.2.1, ?_⟩
  rintro ⟨j, v⟩ hq
  obtain ⟨u, h1, rfl⟩ := am_l_mem.mp hq
  have h2 := List.all_eq_true.mp hL _ (List.mem_of_getElem? h1)
  rw [am_v_ag h h2]
  exact h1 |> am_l_at hl
theorem am_low_inv {n : Nat} {L : List (Option am_V)} {S : List am_V} {w : List am_C} (h : am_low n L S w = true) : L.all (am_loO n) = true ∧ S.all (am_lo n) = true ∧ w.all (am_loC n) = true := by
  simp only [am_low, Bool.and_eq_true] at h
  exact ⟨h.1.1, h.1.2, h.2⟩
/-- what a class's pool entry is, for 'new' -/
def am_NK (s : State) (args : Array Value) (own : String) (Ts : List Jvm.Cond) (cl : List vw_C) (index ci : Nat) (fs : List am_V) : Prop :=
  ∃ (C : String) (F : u_T) (N : Nat) (ty0 : Nat → FieldType), cl[ci]? = some (C, F, N) ∧ (∀ w ∈ u_ws C F N, w ∈ Ts) ∧ (∀ k, k < N → parseFieldDescriptor (F k).2.2.1 = some (ty0 k)) ∧ (Jvm.Cond.classLink own index C).before args s = true ∧ (Jvm.Cond.instantiable C N).before args s = true ∧ (Jvm.Cond.initialized C).before args s = true ∧ fs.length = N ∧ ∀ (ad ou : Nat → Nat) (j : Nat), j < N → defaultValue (ty0 j) = vp_V (fs.map (am_v ad ou)) j
theorem am_o_new {len pc k j : Nat} {ad : Nat → Nat} {kt : am_S → Option am_Z} {L : List (Option am_V)} {S : List am_V} {w : List am_C} {z : am_Z} {x : Nat} {T : am_T} (X : am_X p s m args c cc own Ts D cl tys A nL ca nt) (hN : ∀ index ci fs, T.2.2.2.1 index = some (ci, fs) → am_NK s args own Ts cl index ci fs) (hmc : am_mc T ≤ R.cells) (hms : am_ms T ≤ R.slots) (hd : decode cc pc = .ok (.new x, len)) (h : am_new T len pc L S w k j kt x = some z) (K : ∀ st' : am_S, kt st' = some z → ∀ ad' : Nat → Nat, (∀ i, i < am_n0 T → ad' i = ad i) → am_W p l e R s m args below meth c Q D cl A ou ca nL ad' st') : am_W p l e R s m args below meth c Q D cl A ou ca nL ad (pc, L, S, w, k, j) := by
  unfold am_new at h
  cases hT : T.2.2.2.1 x with
  | none => rw [hT] at h; cases h
  | some y =>
    obtain ⟨ci, fs⟩ := y
    rw [hT] at h
    dsimp only at h
    have hh := am_bt h
    clear h
    obtain ⟨h0, h⟩ := hh
    simp only [Bool.and_eq_true] at h0
    obtain ⟨⟨⟨⟨h1, h2⟩, h3⟩, h4⟩, h5⟩ := h0
    have h3 := Nat.le_of_ble_eq_true h3
    have h4 := Nat.le_of_ble_eq_true h4
    have h5 := Nat.le_of_ble_eq_true h5
    obtain ⟨g1, g2, g3⟩ := am_low_inv h1
    obtain ⟨rfl, hk⟩ := am_nx_inv h
    obtain ⟨C, F, N, ty0, hc, hin, hty, hcl, hins, hini, hlen, hdf⟩ := hN x ci fs hT
    subst hlen
    intro H locs ls hP hD hS hl
    refine va_new (ci := ci) (fs := fs.map (am_v ad ou)) X.1 X.2.1 X.2.2.2.2.1 hin ty0 hty X.2.2.2.1 hcl hins hini X.2.2.2.2.2.1 hP hD hS X.2.2.2.2.2.2.1 hc (hdf ad ou) (Nat.le_trans h4 hmc) (Nat.le_trans h5 hms) hd (fun q H1 hP1 hD1 hS1 => ?_)
    have ha : ∀ i, i < w.length → va_up ad w.length q i = ad i := fun i hi => by
      show (if i = w.length then q else ad i) = ad i
      rw [if_neg (by omega)]
    have hq : va_up ad w.length q w.length = q := by
      show (if w.length = w.length then q else ad w.length) = q
      rw [if_pos rfl]
    have hw : am_w (va_up ad w.length q) ou ca (w ++ [.inr (ci, fs)]) = am_w ad ou ca w ++ [(q, .inr (ci, fs.map (am_v ad ou)))] := by
      rw [am_w_push, am_w_ag ha (Nat.le_refl _) g3, hq]
      have h6 : am_e (va_up ad w.length q) ou ca (.inr (ci, fs)) = am_e ad ou ca (.inr (ci, fs)) := am_e_ag ha h2
      rw [h6]
      rfl
    have R1 := K _ hk (va_up ad w.length q) (fun i hi => ha i (by omega)) H1 locs ls (by dsimp only; rw [hw]; exact hP1) (by dsimp only; rw [hw]; exact hD1) hS1 (am_l_ag ha g1 hl)
    have h7 : (((.inr (.inl w.length) : am_V) :: S).map (am_v (va_up ad w.length q) ou)) = .ref q :: S.map (am_v ad ou) := by
      rw [List.map_cons, am_s_ag ha g2]
      show Value.ref (va_up ad w.length q w.length) :: _ = _
      rw [hq]
    dsimp only at R1
    rw [h7] at R1
    exact R1
theorem am_tyn_ok {a : ArrayType} {t : Nat} (h : am_tyn a = some t) : Op.newarray.typeOf a = am_ty t ∧ defaultValue (am_ty t) = .int 0 ∧ componentBytes (am_ty t) ≤ 4 ∧ (∀ C, ¬ am_ty t = .object C) := by
  cases a <;> first | (cases h; done) | (cases h; exact ⟨rfl, rfl, by decide, fun C hC => by cases hC⟩)
theorem am_ra {s : State} {cA cB : ClassId} {ty : FieldType} (hC : ∀ C, ¬ ty = .object C) (h1 : va_RA s cA ty) (h2 : va_RA s cB ty) : cA = cB := by
  cases ty with
  | object C => exact absurd rfl (hC C)
  | _ => exact Option.some.inj (h1.symm.trans h2)
theorem am_o_nwa {len pc k j : Nat} {ad : Nat → Nat} {kt : am_S → Option am_Z} {L : List (Option am_V)} {S : List am_V} {w : List am_C} {z : am_Z} {a : ArrayType} {T : am_T} (X : am_X p s m args c cc own Ts D cl tys A nL ca nt) (hnt : am_nt T = nt) (hmc : am_mc T ≤ R.cells) (hms : am_ms T ≤ R.slots) (hd : decode cc pc = .ok (.newarray a, len)) (h : am_nwa T len pc L S w k j kt a = some z) (K : ∀ st' : am_S, kt st' = some z → ∀ ad' : Nat → Nat, (∀ i, i < am_n0 T → ad' i = ad i) → am_W p l e R s m args below meth c Q D cl A ou ca nL ad' st') : am_W p l e R s m args below meth c Q D cl A ou ca nL ad (pc, L, S, w, k, j) := by
  unfold am_nwa at h
  cases ht : am_tyn a with
  | none => rw [ht] at h; cases h
  | some t =>
    rw [ht] at h
    split at h
    · rename_i t0 n S' e0
      cases e0
      have hh := am_bt h
      clear h
      obtain ⟨h0, h⟩ := hh
      simp only [Bool.and_eq_true] at h0
      obtain ⟨h1, h2, h3, h4, h5, h6, h7⟩ := h0
      have h1 : ¬ n < 0 := by simpa using h1
      have h2 := Nat.le_of_ble_eq_true h2
      have h3 : t < nt := by rw [← hnt]; exact Nat.le_of_ble_eq_true h3
      have h5 := Nat.le_of_ble_eq_true h5
      have h6 := Nat.le_of_ble_eq_true h6
      have h7 := Nat.le_of_ble_eq_true h7
      obtain ⟨g1, g2, g3⟩ := am_low_inv h4
      obtain ⟨rfl, hk⟩ := am_nx_inv h
      obtain ⟨e1, e2, e3, e4⟩ := am_tyn_ok ht
      have hbt : n.toNatClampNeg * componentBytes (am_ty t) ≤ 536870912 := Nat.le_trans (Nat.mul_le_mul_left _ e3) h2
      intro H locs ls hP hD hS hl
      refine va_newa (ty := am_ty t) (a0 := (n.toNatClampNeg, .inl (fun _ => 0))) X.1 X.2.1 (by rw [e1]; exact X.2.2.2.2.2.2.2.2.1 t h3) e1 X.2.2.2.2.2.1 hP hD hS X.2.2.2.2.2.2.1 (fun cA => by rw [e2]; rfl) h1 rfl hbt (Nat.le_trans h6 hmc) (Nat.le_trans h7 hms) hd (fun q cA H1 hK1 hP1 hD1 hS1 => ?_)
      have hcA : cA = ca t := by
        have k1 := (hK1.2 tys.length (cA, am_ty t) (by simp)).2
        have k2 := (X.2.2.2.2.2.1.2 t (ca t, am_ty t) (X.2.2.2.2.2.2.2.1 t h3)).2
        exact am_ra e4 k1 k2
      subst hcA
      have ha : ∀ i, i < w.length → va_up ad w.length q i = ad i := fun i hi => by
        show (if i = w.length then q else ad i) = ad i
        rw [if_neg (by omega)]
      have hq : va_up ad w.length q w.length = q := by
        show (if w.length = w.length then q else ad w.length) = q
        rw [if_pos rfl]
      have hw : am_w (va_up ad w.length q) ou ca (w ++ [.inl (t, n.toNatClampNeg, fun _ => 0)]) = am_w ad ou ca w ++ [(q, .inl (ca t, n.toNatClampNeg, .inl (fun _ => 0)))] := by
        rw [am_w_push, am_w_ag ha (Nat.le_refl _) g3, hq]
        rfl
      have R1 := K _ hk (va_up ad w.length q) (fun i hi => ha i (by omega)) H1 locs ls (by dsimp only; rw [hw]; exact hP1) (by dsimp only; rw [hw]; exact hD1) hS1 (am_l_ag ha g1 hl)
      have h8 : (((.inr (.inl w.length) : am_V) :: S').map (am_v (va_up ad w.length q) ou)) = .ref q :: S'.map (am_v ad ou) := by
        rw [List.map_cons, am_s_ag ha g2]
        show Value.ref (va_up ad w.length q w.length) :: _ = _
        rw [hq]
      dsimp only at R1
      rw [h8] at R1
      exact R1
    · cases h
end AMW
end
section
/-! CALLS -/
theorem am_ix {sel : List Nat} {i : Nat} (h : sel.contains i = true) : sel[sel.idxOf i]? = some i := by
  induction sel with
  | nil => cases h
  | cons a r ih =>
    rw [List.idxOf_cons]
    cases ha : a == i with
    | true =>
      have : a = i := by simpa using ha
      subst this
      rfl
    | false =>
      have hne : ¬ i = a := fun q => by rw [q] at ha; simp at ha
      have h1 : r.contains i = true := by simpa [hne] using h
      simpa using ih h1
theorem am_v_dn {ad ou : Nat → Nat} {sel : List Nat} {v : am_V} (h : am_hin sel v = true) : am_v (fun i => ad (sel.getD i 0)) ou (am_dn sel v) = am_v ad ou v := by
  rcases v with x | q | q
  · rfl
  · show Value.ref (ad (sel.getD (sel.idxOf q) 0)) = Value.ref (ad q)
    rw [List.getD_eq_getElem?_getD, am_ix h]
    rfl
  · cases q <;> rfl
theorem am_e_dn {ad ou : Nat → Nat} {ca : Nat → ClassId} {sel : List Nat} {x : am_C} (h : am_hinC sel x = true) : am_e (fun i => ad (sel.getD i 0)) ou ca (am_dnC sel x) = am_e ad ou ca x := by
  rcases x with ⟨t, m, f⟩ | ⟨c, fs⟩
  · rfl
  · have h1 : (fs.map (am_dn sel)).map (am_v (fun i => ad (sel.getD i 0)) ou) = fs.map (am_v ad ou) := by
      rw [List.map_map]
      exact List.map_congr_left (fun v hv => am_v_dn (List.all_eq_true.mp h v hv))
    simp only [am_dnC, am_e, h1]
theorem am_sub_eq {w : List am_C} {sel : List Nat} (h : ∀ q ∈ sel, q < w.length) : (am_sub w sel).map some = sel.map (fun q => (w[q]?).map (am_dnC sel)) := by
  have key : ∀ (l : List Nat), (∀ q ∈ l, q < w.length) → (l.filterMap (fun q => (w[q]?).map (am_dnC sel))).map some = l.map (fun q => (w[q]?).map (am_dnC sel)) := by
    intro l
    induction l with
    | nil => intro _; rfl
    | cons a r ih =>
      intro hl
      have ha : a < w.length := hl a List.mem_cons_self
      have h1 : w[a]? = some w[a] := List.getElem?_eq_getElem ha
      simp only [List.filterMap_cons, List.map_cons, h1, Option.map_some, ih (fun q hq => hl q (List.mem_cons_of_mem _ hq))]
  exact key sel h
theorem am_sub_get {w : List am_C} {sel : List Nat} {i : Nat} {y : am_C} (h : ∀ q ∈ sel, q < w.length) (hi : (am_sub w sel)[i]? = some y) : ∃ q x, sel[i]? = some q ∧ w[q]? = some x ∧ y = am_dnC sel x := by
  have h1 : ((am_sub w sel).map some)[i]? = some (some y) := by rw [List.getElem?_map, hi]; rfl
  rw [am_sub_eq h, List.getElem?_map] at h1
  cases hs : sel[i]? with
  | none => rw [hs] at h1; cases h1
  | some q =>
    rw [hs] at h1
    have h2 : (w[q]?).map (am_dnC sel) = some y := Option.some.inj h1
    cases hw : w[q]? with
    | none => rw [hw] at h2; cases h2
    | some x =>
      rw [hw] at h2
      exact ⟨q, x, rfl, hw, (Option.some.inj h2).symm⟩
theorem am_sub_len {w : List am_C} {sel : List Nat} (h : ∀ q ∈ sel, q < w.length) : (am_sub w sel).length = sel.length := by
  have h1 := congrArg List.length (am_sub_eq h)
  simpa using h1
/-- where the callee's place t lies behind the call -/
def am_gt (sel : List Nat) (n t : Nat) : Nat := bif Nat.blt t sel.length then sel.getD t 0 else n + (t - sel.length)
theorem am_gt_in {sel : List Nat} {n t q : Nat} (h : sel[t]? = some q) : am_gt sel n t = q := by
  have h1 : t < sel.length := (List.getElem?_eq_some_iff.mp h).1
  unfold am_gt
  rw [show Nat.blt t sel.length = true from Nat.ble_eq_true_of_le h1, List.getD_eq_getElem?_getD, h]
  rfl
theorem am_gt_out {sel : List Nat} {n t : Nat} (h : sel.length ≤ t) : am_gt sel n t = n + (t - sel.length) := by
  unfold am_gt
  cases hb : Nat.blt t sel.length with
  | true => exact absurd (Nat.le_of_ble_eq_true hb) (by omega)
  | false => rfl
theorem am_mix_get {w w1 : List am_C} {sel : List Nat} {i : Nat} {y : am_C} (hl : sel.length ≤ w1.length) (hi : (am_mix w sel w1)[i]? = some y) : (∃ x, w[i]? = some x ∧ sel.contains i = false ∧ y = x) ∨ ∃ t x, w1[t]? = some x ∧ y = am_upC sel w.length x ∧ i = am_gt sel w.length t := by
  unfold am_mix at hi
  by_cases hn : i < w.length
  · rw [List.getElem?_append_left (by simpa using hn), List.getElem?_mapIdx, List.getElem?_eq_getElem hn] at hi
    have hi := Option.some.inj hi
    cases hc : sel.contains i with
    | false =>
      rw [hc] at hi
      exact Or.inl ⟨w[i], List.getElem?_eq_getElem hn, rfl, hi.symm⟩
    | true =>
      rw [hc] at hi
      have h1 := am_ix hc
      have h2 : sel.idxOf i < sel.length := (List.getElem?_eq_some_iff.mp h1).1
      have h3 : w1[sel.idxOf i]? = some (w1[sel.idxOf i]'(by omega)) := List.getElem?_eq_getElem (by omega)
      refine Or.inr ⟨sel.idxOf i, _, h3, ?_, (am_gt_in h1).symm⟩
      rw [← hi]
      show am_upC sel w.length (w1.getD (sel.idxOf i) w[i]) = _
      rw [List.getD_eq_getElem?_getD, h3]
      rfl
  · rw [List.getElem?_append_right (by simp; omega), List.getElem?_map, List.getElem?_drop] at hi
    simp only [List.length_mapIdx] at hi
    cases hx : w1[sel.length + (i - w.length)]? with
    | none => rw [hx] at hi; cases hi
    | some x =>
      rw [hx] at hi
      refine Or.inr ⟨sel.length + (i - w.length), x, hx, (Option.some.inj hi).symm, ?_⟩
      rw [am_gt_out (by omega)]
      omega
/-- what a call leaves: the answer and the world, at addresses that are the old ones under n0 -/
def am_Qc (D : va_G) (cl : List vw_C) (ou : Nat → Nat) (ca : Nat → ClassId) (n0 : Nat) (ad0 : Nat → Nat) (r : am_Z) (A : Nat → Prop) : Array Value → State → Outcome → State → Prop := fun _ st oc t =>
  (∃ ad : Nat → Nat, (∀ i, i < n0 → ad i = ad0 i) ∧ oc = .returned (r.1.map (am_v ad ou)) ∧ va_P D cl (am_w ad ou ca r.2) t.heap ∧ va_D A (am_w ad ou ca r.2)) ∧ va_F A st t
/-- the call at this pc is one of a method of this meaning -/
def am_CK (p : Program) (l : Launch) (e : Env) (R : Room) (s : State) (m : MethodId) (args : Array Value) (below : List Frame) (meth : Method) (c : Code) (D : va_G) (cl : List vw_C) (A : Nat → Prop) (ou : Nat → Nat) (ca : Nat → ClassId) (nL pc n : Nat) (pre : List am_V → List am_C → Prop) (f : am_M) : Prop :=
  ∀ (a : List am_V) (wc : List am_C) (ad : Nat → Nat) (H : Heap) (locs : List Loc) (ls : Array Slot) (k j : Nat) (rest : List Value), a.length = n → pre a wc → va_P D cl (am_w ad ou ca wc) H → va_D A (am_w ad ou ca wc) → va_S A s.heap H locs → ls.size = nL → (rest.map fun v => v.category).sum ≤ 8 → k + (f a wc).2.2.1 ≤ R.cells → j + (f a wc).2.2.2 ≤ R.slots →
    va_Run p l e R s m args below meth c H locs k j (f a wc).2.2.1 (f a wc).2.2.2 (F0 m pc ls ((a.map (am_v ad ou)).reverse ++ rest)) rest (am_Qc D cl ou ca wc.length ad ((f a wc).1, (f a wc).2.1) (va_A (am_w ad ou ca wc) H.size) #[]) (va_A (am_w ad ou ca wc) H.size)
theorem am_sum1 (ad ou : Nat → Nat) (S : List am_V) : ((S.map (am_v ad ou)).map fun v => v.category).sum = S.length := by
  induction S with
  | nil => rfl
  | cons v S ih => simp only [List.map_cons, List.sum_cons, ih, am_cat, List.length_cons]; omega
/-- addresses behind a call -/
theorem am_after {n0 n : Nat} {ad ad1 ou : Nat → Nat} {sel : List Nat} {L : List (Option am_V)} {S : List am_V} {w w1 : List am_C} {r : Option am_V} (hsel : ∀ q ∈ sel, q < n) (hnw : n = w.length) (hag : ∀ i, i < sel.length → ad1 i = ad (sel.getD i 0))
    (h : ((w1.length == sel.length && (w1.all (am_loC sel.length) && am_loO sel.length r)) || (am_low n L S w && Nat.ble n0 n)) = true) :
    ∃ ad' : Nat → Nat, (∀ i, i < n0 → ad' i = ad i) ∧ (∀ i, i < n → ad' i = ad i) ∧ (∀ t, t < w1.length → ad' (am_gt sel n t) = ad1 t) ∧ (∀ v, r = some v → am_v ad' ou (am_up sel n v) = am_v ad1 ou v) ∧ (∀ (x : am_C) (ca : Nat → ClassId), x ∈ w1 → am_e ad' ou ca (am_upC sel n x) = am_e ad1 ou ca x) ∧ S.map (am_v ad' ou) = S.map (am_v ad ou) ∧ (∀ (x : am_C) (ca : Nat → ClassId), x ∈ w → am_e ad' ou ca x = am_e ad ou ca x) ∧ (∀ (ls : Array Slot) (nL : Nat), lv_has ls nL (am_l ad ou L) → lv_has ls nL (am_l ad' ou L)) := by
  have hin : ∀ t, t < sel.length → ad (am_gt sel n t) = ad1 t := by
    intro t ht
    rw [am_gt_in (List.getElem?_eq_getElem ht), hag t ht, List.getD_eq_getElem?_getD, List.getElem?_eq_getElem ht]
    rfl
  have up : ∀ (ad' : Nat → Nat) (b : Nat), (∀ t, t < b → ad' (am_gt sel n t) = ad1 t) → ∀ v, am_lo b v = true → am_v ad' ou (am_up sel n v) = am_v ad1 ou v := by
    intro ad' b hb v hv
    rcases v with x | q | q
    · rfl
    · show Value.ref (ad' (am_gt sel n q)) = Value.ref (ad1 q)
      rw [hb q (Nat.le_of_ble_eq_true hv)]
    · cases q <;> rfl
  have upC : ∀ (ad' : Nat → Nat) (b : Nat), (∀ t, t < b → ad' (am_gt sel n t) = ad1 t) → ∀ (x : am_C) (ca : Nat → ClassId), am_loC b x = true → am_e ad' ou ca (am_upC sel n x) = am_e ad1 ou ca x := by
    intro ad' b hb x ca hx
    rcases x with ⟨t, m, f⟩ | ⟨c, fs⟩
    · rfl
    · have h1 : (fs.map (am_up sel n)).map (am_v ad' ou) = fs.map (am_v ad1 ou) := by
        rw [List.map_map]
        exact List.map_congr_left (fun v hv => up ad' b hb v (List.all_eq_true.mp hx v hv))
      simp only [am_upC, am_e, h1]
  rw [Bool.or_eq_true] at h
  rcases h with h | h
  · simp only [Bool.and_eq_true] at h
    obtain ⟨h1, h2, h3⟩ := h
    have h1 : w1.length = sel.length := by simpa using h1
    refine ⟨ad, fun _ _ => rfl, fun _ _ => rfl, fun t ht => hin t (by omega), fun v hv => ?_, fun x ca hx => upC ad _ hin x ca (List.all_eq_true.mp h2 x hx), rfl, fun _ _ _ => rfl, fun _ _ q => q⟩
    subst hv
    exact up ad _ hin v h3
  · rw [Bool.and_eq_true] at h
    obtain ⟨g1, g2, g3⟩ := am_low_inv h.1
    have hn := Nat.le_of_ble_eq_true h.2
    obtain ⟨ad', hlo, hhi⟩ : ∃ ad' : Nat → Nat, (∀ i, i < n → ad' i = ad i) ∧ ∀ d, ad' (n + d) = ad1 (sel.length + d) := by
      refine ⟨fun i => if i < n then ad i else ad1 (sel.length + (i - n)), fun i hi => by simp [hi], fun d => ?_⟩
      have : ¬ n + d < n := by omega
      simp [this]
    have hall : ∀ t, ad' (am_gt sel n t) = ad1 t := by
      intro t
      by_cases ht : t < sel.length
      · rw [hlo _ (by rw [am_gt_in (List.getElem?_eq_getElem ht)]; exact hsel _ (List.getElem_mem ht))]
        exact hin t ht
      · rw [am_gt_out (by omega), hhi]
        congr 1
        omega
    have upA : ∀ v, am_v ad' ou (am_up sel n v) = am_v ad1 ou v := by
      intro v
      rcases v with x | q | q
      · rfl
      · show Value.ref (ad' (am_gt sel n q)) = Value.ref (ad1 q)
        rw [hall q]
      · cases q <;> rfl
    refine ⟨ad', fun i hi => hlo i (by omega), hlo, fun t _ => hall t, fun v _ => upA v, fun x ca _ => ?_, am_s_ag hlo g2, fun x ca hx => am_e_ag hlo (List.all_eq_true.mp g3 x hx), fun ls nL hl => am_l_ag hlo g1 hl⟩
    rcases x with ⟨t, m, f⟩ | ⟨c, fs⟩
    · rfl
    · have h1 : (fs.map (am_up sel n)).map (am_v ad' ou) = fs.map (am_v ad1 ou) := by
        rw [List.map_map]
        exact List.map_congr_left (fun v _ => upA v)
      simp only [am_upC, am_e, h1]
section AMK
variable {p : Program} {l : Launch} {e : Env} {R : Room} {s : State} {m : MethodId} {args : Array Value} {below : List Frame} {meth : Method} {c : Code} {Q : State → Prop} {cc : ByteArray} {D : va_G} {cl : List vw_C} {tys : List (ClassId × FieldType)} {A : Nat → Prop} {Ts : List Jvm.Cond} {own : String} {nL nt : Nat} {ou : Nat → Nat} {ca : Nat → ClassId}
theorem am_o_cal {len pc n k j : Nat} {ad : Nat → Nat} {kt : am_S → Option am_Z} {L : List (Option am_V)} {a rest : List am_V} {w : List am_C} {z : am_Z} {T : am_T} {sel : List Nat} {pre : List am_V → List am_C → Prop} {f : am_M} (X : am_X p s m args c cc own Ts D cl tys A nL ca nt) (hCK : am_CK p l e R s m args below meth c D cl A ou ca nL pc n pre f) (han : a.length = n) (hmc : am_mc T ≤ R.cells) (hms : am_ms T ≤ R.slots) (h : am_cal T len pc L w k j kt a rest sel pre f = some z)
    (K : ∀ st' : am_S, kt st' = some z → ∀ ad' : Nat → Nat, (∀ i, i < am_n0 T → ad' i = ad i) → am_W p l e R s m args below meth c Q D cl A ou ca nL ad' st') : am_W p l e R s m args below meth c Q D cl A ou ca nL ad (pc, L, a.reverse ++ rest, w, k, j) := by
  unfold am_cal at h
  have hh := am_bt h
  clear h
  obtain ⟨hsok, h⟩ := hh
  simp only [am_sok, Bool.and_eq_true] at hsok
  obtain ⟨s1, s2, s3, s4⟩ := hsok
  have hsel : ∀ q ∈ sel, q < w.length := fun q hq => Nat.le_of_ble_eq_true (List.all_eq_true.mp s1 q hq)
  by_cases hp : pre (a.map (am_dn sel)) (am_sub w sel)
  · rw [if_pos hp] at h
    generalize hr : f (a.map (am_dn sel)) (am_sub w sel) = r at h
    unfold am_aft at h
    have hh := am_bt h
    clear h
    obtain ⟨h0, h⟩ := hh
    simp only [Bool.and_eq_true] at h0
    obtain ⟨h1, h2, h3, h4, h5⟩ := h0
    have h1 := Nat.le_of_ble_eq_true h1
    have h2 := Nat.le_of_ble_eq_true h2
    have h3 := Nat.le_of_ble_eq_true h3
    have h4 := Nat.le_of_ble_eq_true h4
    obtain ⟨rfl, hk⟩ := am_nx_inv h
    intro H locs ls hP hD hS hl
    have hcell : ∀ q ∈ sel, ∀ x, w[q]? = some x → am_hinC sel x = true := fun q hq x hx => by
      have g := List.all_eq_true.mp s4 q hq
      rw [hx] at g
      exact g
    have hgetC : ∀ (i : Nat) (q : Nat × va_E), (am_w (fun i => ad (sel.getD i 0)) ou ca (am_sub w sel))[i]? = some q → ∃ b, sel[i]? = some b ∧ (am_w ad ou ca w)[b]? = some q := by
      intro i q hq
      obtain ⟨y, hy, rfl⟩ := am_w_inv hq
      obtain ⟨b, x, e1, e2, rfl⟩ := am_sub_get hsel hy
      refine ⟨b, e1, ?_⟩
      rw [am_w_get e2, am_e_dn (hcell b (List.mem_of_getElem? e1) x e2), List.getD_eq_getElem?_getD, e1]
      rfl
    have hPc : va_P D cl (am_w (fun i => ad (sel.getD i 0)) ou ca (am_sub w sel)) H := fun i q hq => by
      obtain ⟨b, -, e2⟩ := hgetC i q hq
      exact hP b q e2
    have hDc : va_D A (am_w (fun i => ad (sel.getD i 0)) ou ca (am_sub w sel)) := by
      refine ⟨fun i i' q q' hq hq' he => ?_, fun i q hq => ?_⟩
      · obtain ⟨b, e1, e2⟩ := hgetC i q hq
        obtain ⟨b', e1', e2'⟩ := hgetC i' q' hq'
        have hbb : b = b' := hD.1 b b' q q' e2 e2' he
        subst hbb
        exact va_nd_inj sel s2 i i' b e1 e1'
      · obtain ⟨b, -, e2⟩ := hgetC i q hq
        exact hD.2 b q e2
    have hfree : ∀ q, va_A (am_w (fun i => ad (sel.getD i 0)) ou ca (am_sub w sel)) H.size q → A q := by
      intro q hq
      rcases hq with ⟨i, y, hq⟩ | hq
      · exact hDc.2 i (q, y) hq
      · exact X.2.2.2.2.2.2.1 q (Nat.le_trans hS.1 hq)
    have hst : (a.reverse ++ rest).map (am_v ad ou) = ((a.map (am_dn sel)).map (am_v (fun i => ad (sel.getD i 0)) ou)).reverse ++ rest.map (am_v ad ou) := by
      have g1 : (a.map (am_dn sel)).map (am_v (fun i => ad (sel.getD i 0)) ou) = a.map (am_v ad ou) := by
        rw [List.map_map]
        exact List.map_congr_left (fun v hv => am_v_dn (List.all_eq_true.mp s3 v hv))
      rw [g1, List.map_append, List.map_reverse]
    have run := hCK (a.map (am_dn sel)) (am_sub w sel) (fun i => ad (sel.getD i 0)) H locs ls k j (rest.map (am_v ad ou)) (by rw [List.length_map]; exact han) hp hPc hDc hS hl.1 (by rw [am_sum1]; exact h4) (by rw [hr]; omega) (by rw [hr]; omega)
    rw [hr] at run
    dsimp only
    rw [hst]
    intro T0 hT0 X0
    obtain ⟨v, st₀, t, T', L', g0, X', hL, e1, e2, ⟨⟨ad1, hag, ho, hP1, hD1⟩, hz, hkp⟩, stp⟩ := run T0 hT0 X0
    cases ho
    rw [g0] at hz hkp
    rw [am_sub_len hsel] at hag
    obtain ⟨ad', a0, aL, aT, aR, aC, aS, aW, aLs⟩ := am_after (n0 := am_n0 T) (n := w.length) (ad := ad) (ad1 := ad1) (ou := ou) (sel := sel) (L := L) (S := rest) (w := w) (w1 := r.2.1) (r := r.1) hsel rfl hag h5
    have hget : ∀ (i : Nat) (q : Nat × va_E), (am_w ad' ou ca (am_mix w sel r.2.1))[i]? = some q → ((am_w ad ou ca w)[i]? = some q ∧ sel.contains i = false) ∨ ∃ b, (am_w ad1 ou ca r.2.1)[b]? = some q ∧ i = am_gt sel w.length b := by
      intro i q hq
      obtain ⟨y, hy, rfl⟩ := am_w_inv hq
      rcases am_mix_get h1 hy with ⟨x, x1, x2, rfl⟩ | ⟨b, x, x1, rfl, rfl⟩
      · refine Or.inl ⟨?_, x2⟩
        rw [am_w_get x1, aW _ ca (List.mem_of_getElem? x1), aL i (List.getElem?_eq_some_iff.mp x1).1]
      · refine Or.inr ⟨b, ?_, rfl⟩
        rw [am_w_get x1, aC _ ca (List.mem_of_getElem? x1), aT b (List.getElem?_eq_some_iff.mp x1).1]
    have hapart : ∀ (i : Nat) (q : Nat × va_E), (am_w ad ou ca w)[i]? = some q → sel.contains i = false → q.1 < H.size ∧ ¬ va_A (am_w (fun i => ad (sel.getD i 0)) ou ca (am_sub w sel)) H.size q.1 := by
      intro i q hq hc
      have hlt := (hP i q hq).lt
      refine ⟨hlt, fun hA => ?_⟩
      rcases hA with ⟨b, y, hb⟩ | hA
      · obtain ⟨b', e1', e2'⟩ := hgetC b (q.1, y) hb
        have hib := hD.1 i b' q (q.1, y) hq e2' rfl
        subst hib
        have hm : i ∈ sel := List.mem_of_getElem? e1'
        rw [List.contains_iff_mem.mpr hm] at hc
        cases hc
      · omega
    have hP2 : va_P D cl (am_w ad' ou ca (am_mix w sel r.2.1)) t.heap := by
      intro i q hq
      rcases hget i q hq with ⟨x1, x2⟩ | ⟨b, x1, -⟩
      · obtain ⟨y1, y2⟩ := hapart i q x1 x2
        exact (hP i q x1).kept (hkp q.1 y1 y2)
      · exact hP1 b q x1
    have hD2 : va_D A (am_w ad' ou ca (am_mix w sel r.2.1)) := by
      refine ⟨fun i i' q q' hq hq' he => ?_, fun i q hq => ?_⟩
      · rcases hget i q hq with ⟨x1, x2⟩ | ⟨b, x1, rfl⟩
        · rcases hget i' q' hq' with ⟨x1', x2'⟩ | ⟨b', x1', rfl⟩
          · exact hD.1 i i' q q' x1 x1' he
          · exact absurd (hD1.2 b' q' x1') (by rw [← he]; exact (hapart i q x1 x2).2)
        · rcases hget i' q' hq' with ⟨x1', x2'⟩ | ⟨b', x1', rfl⟩
          · exact absurd (hD1.2 b q x1) (by rw [he]; exact (hapart i' q' x1' x2').2)
          · rw [hD1.1 b b' q q' x1 x1' he]
      · rcases hget i q hq with ⟨x1, -⟩ | ⟨b, x1, -⟩
        · exact hD.2 i q x1
        · exact hfree _ (hD1.2 b q x1)
    have hS2 : va_S A s.heap t.heap (locs ++ L') := ⟨Nat.le_trans hS.1 hz, fun q q1 q2 => by rw [hkp q (Nat.lt_of_lt_of_le q1 hS.1) (fun y => q2 (hfree q y))]; exact hS.2.1 q q1 q2, fun q hq => by
      rcases List.mem_append.mp hq with y | y
      · exact hS.2.2 q y
      · exact hfree _ (hL q y)⟩
    obtain ⟨t2, a1, b1⟩ := K _ hk ad' a0 t.heap (locs ++ L') ls hP2 hD2 hS2 (aLs ls nL hl) T' e1 X'
    refine ⟨t2, stp t2 ?_, b1⟩
    have hstk : (am_ans sel w.length r.1 ++ rest).map (am_v ad' ou) = (r.1.map (am_v ad1 ou)).toList ++ rest.map (am_v ad ou) := by
      rw [List.map_append, aS]
      congr 1
      cases hr1 : r.1 with
      | none => rfl
      | some v =>
        show [am_v ad' ou (am_up sel w.length v)] = [am_v ad1 ou v]
        rw [aR v hr1]
    dsimp only at a1
    rw [hstk] at a1
    exact a1
  · rw [if_neg hp] at h
    cases h
theorem am_o_caw {len pc n k j : Nat} {ad : Nat → Nat} {kt : am_S → Option am_Z} {L : List (Option am_V)} {a rest : List am_V} {w : List am_C} {z : am_Z} {T : am_T} {pre : List am_V → List am_C → Prop} {f : am_M} (X : am_X p s m args c cc own Ts D cl tys A nL ca nt) (hCK : am_CK p l e R s m args below meth c D cl A ou ca nL pc n pre f) (han : a.length = n) (hmc : am_mc T ≤ R.cells) (hms : am_ms T ≤ R.slots) (h : am_caw T len pc L w k j kt a rest pre f = some z)
    (K : ∀ st' : am_S, kt st' = some z → ∀ ad' : Nat → Nat, (∀ i, i < am_n0 T → ad' i = ad i) → am_W p l e R s m args below meth c Q D cl A ou ca nL ad' st') : am_W p l e R s m args below meth c Q D cl A ou ca nL ad (pc, L, a.reverse ++ rest, w, k, j) := by
  unfold am_caw at h
  by_cases hp : pre a w
  · rw [if_pos hp] at h
    generalize hr : f a w = r at h
    unfold am_afw at h
    have hh := am_bt h
    clear h
    obtain ⟨h0, h⟩ := hh
    simp only [Bool.and_eq_true] at h0
    obtain ⟨h1, h2, h3, h4, h5, h6, h7⟩ := h0
    have h1 := Nat.le_of_ble_eq_true h1
    have h2 := Nat.le_of_ble_eq_true h2
    have h3 := Nat.le_of_ble_eq_true h3
    have h4 := Nat.le_of_ble_eq_true h4
    have h7 := Nat.le_of_ble_eq_true h7
    obtain ⟨rfl, hk⟩ := am_nx_inv h
    intro H locs ls hP hD hS hl
    have hfree : ∀ q, va_A (am_w ad ou ca w) H.size q → A q := by
      intro q hq
      rcases hq with ⟨i, y, hq⟩ | hq
      · exact hD.2 i (q, y) hq
      · exact X.2.2.2.2.2.2.1 q (Nat.le_trans hS.1 hq)
    have hst : (a.reverse ++ rest).map (am_v ad ou) = (a.map (am_v ad ou)).reverse ++ rest.map (am_v ad ou) := by
      rw [List.map_append, List.map_reverse]
    have run := hCK a w ad H locs ls k j (rest.map (am_v ad ou)) han hp hP hD hS hl.1 (by rw [am_sum1]; exact h4) (by rw [hr]; omega) (by rw [hr]; omega)
    rw [hr] at run
    dsimp only
    rw [hst]
    intro T0 hT0 X0
    obtain ⟨v, st₀, t, T', L', g0, X', hL, e1, e2, ⟨⟨ad1, hag, ho, hP1, hD1⟩, hz, hkp⟩, stp⟩ := run T0 hT0 X0
    cases ho
    rw [g0] at hz hkp
    have hS2 : va_S A s.heap t.heap (locs ++ L') := ⟨Nat.le_trans hS.1 hz, fun q q1 q2 => by rw [hkp q (Nat.lt_of_lt_of_le q1 hS.1) (fun y => q2 (hfree q y))]; exact hS.2.1 q q1 q2, fun q hq => by
      rcases List.mem_append.mp hq with y | y
      · exact hS.2.2 q y
      · exact hfree _ (hL q y)⟩
    have hD2 : va_D A (am_w ad1 ou ca r.2.1) := ⟨hD1.1, fun i q hq => hfree _ (hD1.2 i q hq)⟩
    obtain ⟨t2, a1, b1⟩ := K _ hk ad1 (fun i hi => hag i (by omega)) t.heap (locs ++ L') ls hP1 hD2 hS2 (am_l_ag hag h5 hl) T' e1 X'
    refine ⟨t2, stp t2 ?_, b1⟩
    have hstk : (r.1.toList ++ rest).map (am_v ad1 ou) = (r.1.map (am_v ad1 ou)).toList ++ rest.map (am_v ad ou) := by
      rw [List.map_append, am_s_ag hag h6]
      congr 1
      cases r.1 <;> rfl
    dsimp only at a1
    rw [hstk] at a1
    exact a1
  · rw [if_neg hp] at h
    cases h
theorem am_o_inv {len pc k j : Nat} {ad : Nat → Nat} {kt : am_S → Option am_Z} {L : List (Option am_V)} {S : List am_V} {w : List am_C} {z : am_Z} {T : am_T} (X : am_X p s m args c cc own Ts D cl tys A nL ca nt) (hC : ∀ sel n pre f, T.2.2.2.2.2.1 pc = some (sel, n, pre, f) → am_CK p l e R s m args below meth c D cl A ou ca nL pc n pre f) (hmc : am_mc T ≤ R.cells) (hms : am_ms T ≤ R.slots) (h : am_inv T len pc L w k j kt S = some z)
    (K : ∀ st' : am_S, kt st' = some z → ∀ ad' : Nat → Nat, (∀ i, i < am_n0 T → ad' i = ad i) → am_W p l e R s m args below meth c Q D cl A ou ca nL ad' st') : am_W p l e R s m args below meth c Q D cl A ou ca nL ad (pc, L, S, w, k, j) := by
  unfold am_inv at h
  cases hT : T.2.2.2.2.2.1 pc with
  | none => rw [hT] at h; cases h
  | some y =>
    obtain ⟨sel, n, pre, f⟩ := y
    rw [hT] at h
    cases sel with
    | none =>
      dsimp only at h
      have hh := am_bt h
      clear h
      obtain ⟨h0, h⟩ := hh
      have h0 := Nat.le_of_ble_eq_true h0
      have R1 := am_o_caw X (hC none n pre f hT) (by rw [List.length_reverse, List.length_take]; omega) hmc hms h K
      rw [List.reverse_reverse, List.take_append_drop] at R1
      exact R1
    | some sel =>
      dsimp only at h
      have hh := am_bt h
      clear h
      obtain ⟨h0, h⟩ := hh
      have h0 := Nat.le_of_ble_eq_true h0
      have R1 := am_o_cal X (hC (some sel) n pre f hT) (by rw [List.length_reverse, List.length_take]; omega) hmc hms h K
      rw [List.reverse_reverse, List.take_append_drop] at R1
      exact R1
end AMK
end
section
/-! THE MACHINE IS SOUND -/
def am_LK (s : State) (own : String) (args : Array Value) (ou : Nat → Nat) (x : Nat) (v : am_V) : Prop := (∃ n, v = .inl n ∧ (Jvm.Cond.constant own x n).before args s = true) ∨ ∃ k tx, v = .inr (.inr (k + 1)) ∧ vk_R own x tx (ou k) s
/-- the tables of a method say what is so -/
def am_TK (p : Program) (l : Launch) (e : Env) (R : Room) (s : State) (m : MethodId) (args : Array Value) (below : List Frame) (meth : Method) (c : Code) (cc : ByteArray) (own : String) (Ts : List Jvm.Cond) (D : va_G) (cl : List vw_C) (A : Nat → Prop) (ou : Nat → Nat) (ca : Nat → ClassId) (nL nt : Nat) (T : am_T) : Prop :=
  (∀ q ∈ T.1, decode cc q.1 = .ok q.2) ∧ (∀ index ci fi mode, T.2.1 index = some (ci, fi, mode) → am_FK s args meth own Ts cl T.2.2.1 index ci fi mode) ∧ (∀ index ci fs, T.2.2.2.1 index = some (ci, fs) → am_NK s args own Ts cl index ci fs) ∧ (∀ x v, T.2.2.2.2.1 x = some v → am_LK s own args ou x v) ∧
  (∀ pc sel n pre f, T.2.2.2.2.2.1 pc = some (sel, n, pre, f) → am_CK p l e R s m args below meth c D cl A ou ca nL pc n pre f) ∧ (∀ o n f, T.2.2.2.2.2.2.1 o = some (n, f) → va_X (ou o) n f s s.heap ∧ ou o < s.heap.size ∧ ¬ A (ou o)) ∧ am_nt T = nt ∧ am_nl T = nL ∧ am_mc T ≤ R.cells ∧ am_ms T ≤ R.slots
section AMS
variable {p : Program} {l : Launch} {e : Env} {R : Room} {s : State} {m : MethodId} {args : Array Value} {below : List Frame} {meth : Method} {c : Code} {Q : State → Prop} {cc : ByteArray} {D : va_G} {cl : List vw_C} {tys : List (ClassId × FieldType)} {A : Nat → Prop} {Ts : List Jvm.Cond} {own : String} {nL nt : Nat} {ou : Nat → Nat} {ca : Nat → ClassId}
theorem am_do_ok {i : Instr} {len pc k j : Nat} {ad : Nat → Nat} {kt : am_S → Option am_Z} {L : List (Option am_V)} {S : List am_V} {w : List am_C} {z : am_Z} {T : am_T} (X : am_X p s m args c cc own Ts D cl tys A nL ca nt) (Y : am_TK p l e R s m args below meth c cc own Ts D cl A ou ca nL nt T) (hd : decode cc pc = .ok (i, len)) (h : am_do T i len pc L S w k j kt = some z)
    (hret : am_ret T i len S w k j = some z → am_W p l e R s m args below meth c Q D cl A ou ca nL ad (pc, L, S, w, k, j)) (K : ∀ st' : am_S, kt st' = some z → ∀ ad' : Nat → Nat, (∀ i, i < am_n0 T → ad' i = ad i) → am_W p l e R s m args below meth c Q D cl A ou ca nL ad' st') : am_W p l e R s m args below meth c Q D cl A ou ca nL ad (pc, L, S, w, k, j) := by
  obtain ⟨y1, y2, y3, y4, y5, y6, y7, y8, y9, y10⟩ := Y
  have K1 : ∀ st' : am_S, kt st' = some z → am_W p l e R s m args below meth c Q D cl A ou ca nL ad st' := fun st' hk => K st' hk ad (fun _ _ => rfl)
  cases i with
  | iload_n x => exact am_o_iload_n X hd h K1
  | iload x => exact am_o_iload X hd h K1
  | aload_n x => exact am_o_aload_n X hd h K1
  | aload x => exact am_o_aload X hd h K1
  | istore_n x => exact am_o_istore_n X y8 hd h K1
  | istore x => exact am_o_istore X y8 hd h K1
  | astore_n x => exact am_o_astore_n X y8 hd h K1
  | astore x => exact am_o_astore X y8 hd h K1
  | iinc x n => exact am_o_iinc X y8 hd h K1
  | iconst n => exact am_o_iconst X hd h K1
  | bipush n => exact am_o_bipush X hd h K1
  | sipush n => exact am_o_sipush X hd h K1
  | aconst_null => exact am_o_null X hd h K1
  | iadd => exact am_o_iadd X hd h K1
  | isub => exact am_o_isub X hd h K1
  | imul => exact am_o_imul X hd h K1
  | iand => exact am_o_iand X hd h K1
  | ior => exact am_o_ior X hd h K1
  | ixor => exact am_o_ixor X hd h K1
  | ishl => exact am_o_ishl X hd h K1
  | ishr => exact am_o_ishr X hd h K1
  | iushr => exact am_o_iushr X hd h K1
  | idiv => exact am_o_idiv X hd h K1
  | irem => exact am_o_irem X hd h K1
  | ineg => exact am_o_ineg X hd h K1
  | i2c => exact am_o_i2c X hd h K1
  | ldc x => 
    dsimp only [am_do] at h
    cases hT : T.2.2.2.2.1 x with
    | none => rw [hT] at h; cases h
    | some v =>
      rw [hT] at h
      obtain ⟨rfl, hk⟩ := am_nx_inv h
      rcases y4 x v hT with ⟨n, rfl, hc⟩ | ⟨q, tx, rfl, hc⟩
      · exact fun H locs ls hP hD hS hl => lv_ldc X.1 X.2.1 X.2.2.2.1 hc hd (K1 _ hk H locs ls hP hD hS hl)
      · exact fun H locs ls hP hD hS hl => va_ldcS X.1 X.2.1 X.2.2.2.1 hc hd (K1 _ hk H locs ls hP hD hS hl)
  | dup => 
    dsimp only [am_do] at h
    split at h
    · obtain ⟨rfl, hk⟩ := am_nx_inv h
      exact fun H locs ls hP hD hS hl => lv_dup X.1 X.2.1 hd (am_cat _ _ _) (K1 _ hk H locs ls hP hD hS hl)
    · cases h
  | pop => 
    dsimp only [am_do] at h
    split at h
    · obtain ⟨rfl, hk⟩ := am_nx_inv h
      exact fun H locs ls hP hD hS hl => lv_pop X.1 X.2.1 hd (am_cat _ _ _) (K1 _ hk H locs ls hP hD hS hl)
    · cases h
  | dup2 => 
    dsimp only [am_do] at h
    split at h
    · obtain ⟨rfl, hk⟩ := am_nx_inv h
      exact fun H locs ls hP hD hS hl => lv_dup2_11 X.1 X.2.1 hd (am_cat _ _ _) (am_cat _ _ _) (K1 _ hk H locs ls hP hD hS hl)
    · cases h
  | dup_x1 => 
    dsimp only [am_do] at h
    split at h
    · obtain ⟨rfl, hk⟩ := am_nx_inv h
      exact fun H locs ls hP hD hS hl => lv_dup_x1 X.1 X.2.1 hd (am_cat _ _ _) (am_cat _ _ _) (K1 _ hk H locs ls hP hD hS hl)
    · cases h
  | dup_x2 => 
    dsimp only [am_do] at h
    split at h
    · obtain ⟨rfl, hk⟩ := am_nx_inv h
      exact fun H locs ls hP hD hS hl => lv_dup_x2 X.1 X.2.1 hd (am_cat _ _ _) (am_cat _ _ _) (am_cat _ _ _) (K1 _ hk H locs ls hP hD hS hl)
    · cases h
  | ifCond cd off => exact am_o_ifz X hd h K1
  | if_icmp cd off => exact am_o_icm X hd h K1
  | goto off => exact am_o_goto X hd h K1
  | tableswitch d lo hi offs => exact am_o_tsw X hd h K1
  | lookupswitch d ps => exact am_o_lsw X hd h K1
  | getfield x => exact am_o_gtf X y2 hd h K1
  | putfield x => exact am_o_ptf X y2 hd h K1
  | iaload => exact am_o_arli X y7 y6 hd h K1
  | caload => exact am_o_arlc X y7 y6 hd h K1
  | iastore => exact am_o_arsi X y7 hd h K1
  | castore => exact am_o_arsc X y7 hd h K1
  | arraylength => exact am_o_aln X y7 y6 hd h K1
  | new x => exact am_o_new X y3 y9 y10 hd h K
  | newarray a => exact am_o_nwa X y7 y9 y10 hd h K
  | invokevirtual x => exact am_o_inv X (y5 pc) y9 y10 h K
  | invokestatic x => exact am_o_inv X (y5 pc) y9 y10 h K
  | invokespecial x => exact am_o_inv X (y5 pc) y9 y10 h K
  | _ => exact hret h
theorem am_go_ok {cuts : List Nat} {kt : am_S → Option am_Z} {z : am_Z} {T : am_T} {ad0 : Nat → Nat} (X : am_X p s m args c cc own Ts D cl tys A nL ca nt) (Y : am_TK p l e R s m args below meth c cc own Ts D cl A ou ca nL nt T)
    (hret : ∀ (i : Instr) (len pc : Nat) (L : List (Option am_V)) (S : List am_V) (w : List am_C) (k j : Nat), decode cc pc = .ok (i, len) → am_ret T i len S w k j = some z → ∀ ad : Nat → Nat, (∀ i, i < am_n0 T → ad i = ad0 i) → am_W p l e R s m args below meth c Q D cl A ou ca nL ad (pc, L, S, w, k, j)) 
    (K : ∀ st' : am_S, kt st' = some z → ∀ ad' : Nat → Nat, (∀ i, i < am_n0 T → ad' i = ad0 i) → am_W p l e R s m args below meth c Q D cl A ou ca nL ad' st') : ∀ (n : Nat) (st : am_S), am_go T cuts n st kt = some z → ∀ ad : Nat → Nat, (∀ i, i < am_n0 T → ad i = ad0 i) → am_W p l e R s m args below meth c Q D cl A ou ca nL ad st := by
  intro n
  induction n with
  | zero => intro st h; cases h
  | succ n ih =>
    intro st h ad had
    obtain ⟨pc, L, S, w, k, j⟩ := st
    unfold am_go at h
    dsimp only at h
    cases hT : am_at T.1 pc with
    | none => rw [hT] at h; cases h
    | some y =>
      obtain ⟨i, len⟩ := y
      rw [hT] at h
      have hd : decode cc pc = .ok (i, len) := Y.1 (pc, i, len) (am_at_mem hT)
      refine am_do_ok X Y hd h (fun hr => hret i len pc L S w k j hd hr ad had) (fun st' hk ad' ha => ?_)
      cases hc : cuts.contains st'.1 with
      | true =>
        rw [hc] at hk
        exact K st' hk ad' (fun i hi => (ha i hi).trans (had i hi))
      | false =>
        rw [hc] at hk
        exact ih st' hk ad' (fun i hi => (ha i hi).trans (had i hi))
theorem am_ev_ok {cuts : List Nat} {z : am_Z} {T : am_T} {ad0 : Nat → Nat} (X : am_X p s m args c cc own Ts D cl tys A nL ca nt) (Y : am_TK p l e R s m args below meth c cc own Ts D cl A ou ca nL nt T)
    (hret : ∀ (i : Instr) (len pc : Nat) (L : List (Option am_V)) (S : List am_V) (w : List am_C) (k j : Nat), decode cc pc = .ok (i, len) → am_ret T i len S w k j = some z → ∀ ad : Nat → Nat, (∀ i, i < am_n0 T → ad i = ad0 i) → am_W p l e R s m args below meth c Q D cl A ou ca nL ad (pc, L, S, w, k, j)) : ∀ (n : Nat) (st : am_S), am_ev T cuts n st = some z → ∀ ad : Nat → Nat, (∀ i, i < am_n0 T → ad i = ad0 i) → am_W p l e R s m args below meth c Q D cl A ou ca nL ad st := by
  intro n
  induction n with
  | zero => intro st h; cases h
  | succ n ih =>
    intro st h
    unfold am_ev at h
    exact am_go_ok X Y hret ih 400 st h
theorem am_ret_ok {i : Instr} {len pc k j : Nat} {ad ad0 : Nat → Nat} {L : List (Option am_V)} {S : List am_V} {w : List am_C} {z : am_Z} {T : am_T} (X : am_X p s m args c cc own Ts D cl tys A nL ca nt) (hr : meth.sig.returnType = am_rt T) (hlocks : meth.locks = false) (hd : decode cc pc = .ok (i, len)) (h : am_ret T i len S w k j = some z) (had : ∀ i, i < am_n0 T → ad i = ad0 i) : am_W p l e R s m args below meth c (MQ below (am_Qc D cl ou ca (am_n0 T) ad0 z A) args s (am_mc T) (am_ms T) A) D cl A ou ca nL ad (pc, L, S, w, k, j) := by
  intro H locs ls hP hD hS hl
  have hend : ∀ {x : Option am_Z}, (bif am_end T len k j then x else none) = some z → len = 1 ∧ k ≤ am_mc T ∧ j ≤ am_ms T ∧ x = some z := by
    intro x hq
    obtain ⟨h1, h2⟩ := am_bt hq
    simp only [am_end, Bool.and_eq_true] at h1
    exact ⟨by simpa using h1.1, Nat.le_of_ble_eq_true h1.2.1, Nat.le_of_ble_eq_true h1.2.2, h2⟩
  cases i with
  | return_ =>
    have hh := hend h
    clear h
    obtain ⟨rfl, hk, hj, h⟩ := hh
    cases ht : am_rt T with
    | some ty => rw [ht] at h; cases h
    | none =>
      rw [ht] at h hr
      cases S with
      | cons v S => cases h
      | nil =>
        cases h
        refine W.widen (k := am_mc T) (n := am_ms T) hk hj ?_
        exact W.vret X.1 X.2.1 hr (fun t ht hW => ⟨⟨ad, had, rfl, by rw [ht]; exact hP, hD⟩, hS.F ht⟩) hS.2.2 hd hlocks
  | ireturn =>
    have hh := hend h
    clear h
    obtain ⟨rfl, hk, hj, h⟩ := hh
    cases ht : am_rt T with
    | none => rw [ht] at h; cases h
    | some ty =>
      rw [ht] at h hr
      rcases S with _ | ⟨v, _ | ⟨u, S⟩⟩
      · cases h
      rcases v with v | v
      · have hh := am_fic_inv h
        clear h
        obtain ⟨h1, h⟩ := hh
        cases h
        refine W.widen (k := am_mc T) (n := am_ms T) hk hj ?_
        exact W.zret X.1 X.2.1 hr (am_fit_ok ad ou h1).1 (fun t ht hW => ⟨⟨ad, had, rfl, by rw [ht]; exact hP, hD⟩, hS.F ht⟩) hS.2.2 hd hlocks
      · cases h
      · rcases v with v | v <;> cases h
  | areturn =>
    have hh := hend h
    clear h
    obtain ⟨rfl, hk, hj, h⟩ := hh
    cases ht : am_rt T with
    | none => rw [ht] at h; cases h
    | some ty =>
      rw [ht] at h hr
      rcases S with _ | ⟨v, _ | ⟨u, S⟩⟩
      · cases h
      rcases v with v | v
      · cases h
      · have hh := am_fic_inv h
        clear h
        obtain ⟨h1, h⟩ := hh
        cases h
        refine W.widen (k := am_mc T) (n := am_ms T) hk hj ?_
        refine W.aret X.1 X.2.1 hr ?_ ?_ (fun t ht hW => ⟨⟨ad, had, rfl, by rw [ht]; exact hP, hD⟩, hS.F ht⟩) hS.2.2 hd hlocks
        · cases ty with
          | object n => exact Or.inl ⟨n, rfl⟩
          | array n => exact Or.inr ⟨n, rfl⟩
          | _ => cases h1
        · rcases v with q | q
          · exact Or.inr ⟨_, rfl⟩
          · cases q with
            | zero => exact Or.inl rfl
            | succ q => exact Or.inr ⟨_, rfl⟩
      · rcases v with v | v <;> cases h
  | _ => cases h
end AMS
theorem am_args {ad ou : Nat → Nat} {a : List am_V} : ∀ (d i : Nat) (u : am_V), a[i]? = some u → (d + i, am_v ad ou u) ∈ lv_args d (a.map (am_v ad ou)) := by
  induction a with
  | nil => intro d i u h; cases h
  | cons v r ih =>
    intro d i u h
    rw [List.map_cons]
    unfold lv_args
    rw [if_neg (by rw [am_cat]; decide)]
    cases i with
    | zero =>
      have h1 : v = u := Option.some.inj h
      subst h1
      exact List.mem_cons_self
    | succ i =>
      have h1 := ih (d + 1) i u (by simpa using h)
      rw [show d + (i + 1) = d + 1 + i by omega]
      exact List.mem_cons_of_mem _ h1
/-- the local variables at the start -/
def am_L0 (a : List am_V) (nL : Nat) : List (Option am_V) := a.map some ++ List.replicate (nL - a.length) none
theorem am_L0_ok {ad ou : Nat → Nat} {a : List am_V} {nL : Nat} {ls : Array Slot} (h : lv_has ls nL (lv_args 0 (a.map (am_v ad ou)))) : lv_has ls nL (am_l ad ou (am_L0 a nL)) := by
  refine ⟨h.1, h.2.1, ?_⟩
  rintro ⟨j, v⟩ hq
  obtain ⟨u, h1, rfl⟩ := am_l_mem.mp hq
  apply h.2.2 (j, _)
  have h2 : a[j]? = some u := by
    unfold am_L0 at h1
    by_cases hj : j < a.length
    · rw [List.getElem?_append_left (by simpa using hj), List.getElem?_map] at h1
      cases ha : a[j]? with
      | none => rw [ha] at h1; cases h1
      | some x => rw [ha] at h1; rw [Option.some.inj (Option.some.inj h1)]
    · rw [List.getElem?_append_right (by simp; omega), List.getElem?_replicate] at h1
      split at h1 <;> cases h1
  have h3 := am_args (ad := ad) (ou := ou) 0 j u h2
  rw [Nat.zero_add] at h3
  exact h3
theorem am_lg (ad ou : Nat → Nat) (a : List am_V) : (lg_sl (a.map (am_v ad ou))).length = a.length := by
  induction a with
  | nil => rfl
  | cons v r ih =>
    have h1 : lg_sl ((v :: r).map (am_v ad ou)) = .val (am_v ad ou v) :: lg_sl (r.map (am_v ad ou)) := by
      simp only [List.map_cons, lg_sl, List.flatMap_cons]
      rw [if_neg (by rw [am_cat]; decide)]
      rfl
    rw [h1, List.length_cons, ih, List.length_cons]
/-- a method's contract, by its meaning. E: what else holds of the state (of strings, nest mates ..), whatever the world is -/
def am_Met (l : Launch) (E : (Nat → Prop) → State → Prop) (D : va_G) (cl : List vw_C) (tys : List (ClassId × FieldType)) (ou : Nat → Nat) (ca : Nat → ClassId) (y : MethodName) (ws : List Jvm.Cond) (fr lo : Nat) (pre : List am_V → List am_C → Prop) (f : am_M) : Prop :=
  ∀ (ad : Nat → Nat) (sz : Nat) (a : List am_V) (w : List am_C), pre a w → Met l y ws { frames := fr, cells := (f a w).2.2.1, slots := (f a w).2.2.2, locals := lo } (va_Pc (a.map (am_v ad ou)) (fun U => U.heap.size = sz ∧ va_P D cl (am_w ad ou ca w) U.heap ∧ va_K D cl tys U ∧ va_D (fun _ => True) (am_w ad ou ca w) ∧ E (va_A (am_w ad ou ca w) sz) U)) (am_Qc D cl ou ca w.length ad ((f a w).1, (f a w).2.1) (va_A (am_w ad ou ca w) sz)) (f a w).2.2.1 (f a w).2.2.2 (va_A (am_w ad ou ca w) sz)
end
section
/-! A METHOD'S CONTRACT out of its run on the machine; a call out of a contract -/
abbrev am_B : Type := List (Nat × Instr × Nat) × (Nat → Option (Nat × Nat × Nat)) × (Nat → Nat → FieldType) × (Nat → Option (Nat × List am_V)) × (Nat → Option am_V) × (Nat → Option (Option (List Nat) × Nat × (List am_V → List am_C → Prop) × am_M)) × (Nat → Option (Nat × (Nat → Int32))) × Nat × Nat × Option FieldType
def am_mk (B : am_B) (mc ms n0 : Nat) : am_T := (B.1, B.2.1, B.2.2.1, B.2.2.2.1, B.2.2.2.2.1, B.2.2.2.2.2.1, B.2.2.2.2.2.2.1, B.2.2.2.2.2.2.2.1, B.2.2.2.2.2.2.2.2.1, mc, ms, n0, B.2.2.2.2.2.2.2.2.2)
def am_EC (E : (Nat → Prop) → State → Prop) : Prop := (∀ (A : Nat → Prop) (U U' : State), U'.vm = U.vm → U'.heap = U.heap → E A U → E A U') ∧ ∀ (A A' : Nat → Prop) (s U : State), s.WarmedH U.vm → (∀ q, A' q → A q) → (∀ q : Nat, q < s.heap.size → ¬ A q → U.heap[q]? = s.heap[q]?) → s.heap.size ≤ U.heap.size → E A s → E A' U
theorem am_met {l : Launch} {E : (Nat → Prop) → State → Prop} {D : va_G} {cl : List vw_C} {tys : List (ClassId × FieldType)} {ou : Nat → Nat} {ca : Nat → ClassId} {y : MethodName} {ws ws' : List Jvm.Cond} {fr lo : Nat} {pre : List am_V → List am_C → Prop} {f : am_M} {cc : ByteArray} {nL nt : Nat} {ret : Option FieldType} {cuts : List Nat} {B : am_B}
    (hy : plainName y.cls = true) (hw : ws = Jvm.Cond.code y cc nL ret :: ws') (hret : B.2.2.2.2.2.2.2.2.2 = ret) (hty : ∀ t, t < nt → tys[t]? = some (ca t, am_ty t)) (harr : ∀ t, t < nt → Jvm.Cond.arrayClass (am_ty t) ∈ ws) (hnt : nt ≤ 5) (hargs : ∀ a w, pre a w → a.length ≤ nL)
    (hTK : ∀ (a : List am_V) (w : List am_C), pre a w → ∀ (ad : Nat → Nat) (p : Program) (e : Env) (R : Room) (s : State) (m : MethodId) (args : Array Value) (below : List Frame) (meth : Method) (c : Code), R = { frames := fr, cells := (f a w).2.2.1, slots := (f a w).2.2.2, locals := lo } → am_X p s m args c cc y.cls ws D cl tys (va_A (am_w ad ou ca w) s.heap.size) nL ca nt → E (va_A (am_w ad ou ca w) s.heap.size) s → meth.name = y.name → am_TK p l e R s m args below meth c cc y.cls ws D cl (va_A (am_w ad ou ca w) s.heap.size) ou ca nL nt (am_mk B (f a w).2.2.1 (f a w).2.2.2 w.length))
    (hrun : ∀ (a : List am_V) (w : List am_C), pre a w → ∃ n, am_ev (am_mk B (f a w).2.2.1 (f a w).2.2.2 w.length) cuts n (0, am_L0 a nL, [], w, 0, 0) = some ((f a w).1, (f a w).2.1)) : am_Met l E D cl tys ou ca y ws fr lo pre f := by
  intro ad sz a w hp
  refine Met.ofW (cc := cc) (maxL := nL) (ret := ret) hy hw ?_
  intro p e s m args below meth c s₁ B0 hml hv
  obtain ⟨rfl, hsz, hP, hK, hD0, hE⟩ := hv
  subst hsz
  have hts := atoms_spec (ws := ws) B0.pre
  have hown : s.vm.findClass y.cls = some m.cls := findClass_of_methodNamed B0.named
  have hnm : meth.name = y.name := (name_of_methodNamed B0.named B0.method).1
  have hD := hD0.self (sz := s.heap.size)
  have hS : va_S (va_A (am_w ad ou ca w) s.heap.size) s.heap s.heap [] := va_S.rf
  have hl := lv_entry (a.map (am_v ad ou)) (n := nL) (by rw [am_lg]; exact hargs a w hp)
  rw [lg_entry_eq]
  generalize (lg_sl (a.map (am_v ad ou)) ++ List.replicate (nL - (lg_sl (a.map (am_v ad ou))).length) Slot.unset).toArray = ls at hl ⊢
  have X : am_X p s m (a.map (am_v ad ou)).toArray c cc y.cls ws D cl tys (va_A (am_w ad ou ca w) s.heap.size) nL ca nt := ⟨B0.exec, B0.bytes, hml, hown, hts, hK, fun q h => Or.inr h, hty, fun t ht => hts _ (harr t ht), hnt⟩
  obtain ⟨n, hn⟩ := hrun a w hp
  have hr : meth.sig.returnType = am_rt (am_mk B (f a w).2.2.1 (f a w).2.2.2 w.length) := B0.returns.trans hret.symm
  exact am_ev_ok X (hTK a w hp ad p e _ s m _ below meth c rfl X hE hnm) (fun i len pc L S w2 k j hd hr2 ad' had => am_ret_ok (ad0 := ad) X hr B0.notSynchronized hd hr2 had) n _ hn ad (fun _ _ => rfl) s.heap [] ls hP hD hS (am_L0_ok hl)
section AMCK
variable {p : Program} {l : Launch} {e : Env} {R : Room} {s : State} {m : MethodId} {args : Array Value} {below : List Frame} {meth : Method} {c : Code} {cc bytes : ByteArray} {D : va_G} {cl : List vw_C} {tys : List (ClassId × FieldType)} {A : Nat → Prop} {Ts ws ws' : List Jvm.Cond} {own : String} {nL nt fr lo pc n maxL idx : Nat} {ou : Nat → Nat} {ca : Nat → ClassId} {E : (Nat → Prop) → State → Prop} {y : MethodName} {pre : List am_V → List am_C → Prop} {f : am_M} {ret : Option FieldType}
theorem am_pre (X : am_X p s m args c cc own Ts D cl tys A nL ca nt) (hEs : E A s) (hEC : am_EC E) {a : List am_V} {wc : List am_C} {ad : Nat → Nat} {H : Heap} {locs : List Loc} (hP : va_P D cl (am_w ad ou ca wc) H) (hD : va_D A (am_w ad ou ca wc)) (hS : va_S A s.heap H locs) : PreS s H (va_Pc (a.map (am_v ad ou)) (fun U => U.heap.size = H.size ∧ va_P D cl (am_w ad ou ca wc) U.heap ∧ va_K D cl tys U ∧ va_D (fun _ => True) (am_w ad ou ca wc) ∧ E (va_A (am_w ad ou ca wc) H.size) U)) (a.map (am_v ad ou)) := by
  refine ⟨fun a U g mk q => ?_, fun U hU hW => ⟨rfl, by rw [hU], by rw [hU]; exact hP, va_K.moved hW.alike X.2.2.2.2.2.1, hD.weaken (fun _ _ _ _ => trivial), hEC.2 A _ s U hW (fun q hq => ?_) (fun q h1 h2 => by rw [hU]; exact hS.2.1 q h1 h2) (by rw [hU]; exact hS.1) hEs⟩⟩
  · obtain ⟨q0, q1, qP, qK, qD, qE⟩ := q
    exact ⟨q0, q1, qP, va_K.moved (u := U) (U := U.calling g mk a) (Vm.Alike.refl U.vm) qK, qD, hEC.1 _ U (U.calling g mk a) rfl rfl qE⟩
  · rcases hq with ⟨i, z, hq⟩ | hq
    · exact hD.2 i (q, z) hq
    · exact X.2.2.2.2.2.2.1 q (Nat.le_trans hS.1 hq)
theorem am_ck_S (X : am_X p s m args c cc own Ts D cl tys A nL ca nt) (hEs : E A s) (hEC : am_EC E) (hM : am_Met l E D cl tys ou ca y ws fr lo pre f) (hG : GoodIn Ts ws) (hw : ws = Jvm.Cond.code y bytes maxL ret :: ws') (hini : Jvm.Cond.initialized y.cls ∈ Ts) (hlk : Jvm.Cond.methodLink own idx y ∈ Ts) (hst : Jvm.Cond.static y ∈ Ts)
    (hdd : y.cls ≠ "java/lang/invoke/MethodHandle" ∧ y.cls ≠ "java/lang/invoke/VarHandle" ∧ (parseMethodDescriptor y.desc).map (fun d => d.parameters.length) = some n) (hR : fr + 1 ≤ R.frames ∧ 8 + (maxL + 11) + lo ≤ R.locals) (hd : decode cc pc = .ok (.invokestatic idx, 3)) : am_CK p l e R s m args below meth c D cl A ou ca nL pc n pre f := by
  intro a wc ad H locs ls k j rest han hp hP hD hS hsz hW hk hj
  exact va_runS (nL := nL) (Ts := Ts) (own := own) (bytes := bytes) (maxL := maxL) (ret := ret) (As := a.map (am_v ad ou)) ⟨X.1, X.2.1, X.2.2.1, X.2.2.2.1, X.2.2.2.2.1⟩ (hM ad H.size a wc hp) ⟨callB_of n X.2.2.2.2.1 hG hw rfl rfl (X.2.2.2.2.1 _ hini) (X.2.2.2.2.1 _ hlk) hdd hR, X.2.2.2.2.1 _ hst⟩ (am_pre X hEs hEC hP hD hS) rfl (by rw [List.length_map]; exact han) hsz rfl (lv_room hW) hd ⟨hk, hj⟩
theorem am_ck_I (X : am_X p s m args c cc own Ts D cl tys A nL ca nt) (hEs : E A s) (hEC : am_EC E) (hM : am_Met l E D cl tys ou ca y ws fr lo pre f) (hG : GoodIn Ts ws) (hw : ws = Jvm.Cond.code y bytes maxL none :: ws') (hini : Jvm.Cond.initialized y.cls ∈ Ts) (hlk : Jvm.Cond.methodLink own idx y ∈ Ts) (hin : Jvm.Cond.instanceMethod y ∈ Ts) (hy1 : y.name = "<init>") (hpa : ∀ a w, pre a w → ∃ q a', a = .inr (.inl q) :: a')
    (hdd : y.cls ≠ "java/lang/invoke/MethodHandle" ∧ y.cls ≠ "java/lang/invoke/VarHandle" ∧ (parseMethodDescriptor y.desc).map (fun d => d.parameters.length) = some n) (hR : fr + 1 ≤ R.frames ∧ 8 + (maxL + 11) + lo ≤ R.locals) (hd : decode cc pc = .ok (.invokespecial idx, 3)) : am_CK p l e R s m args below meth c D cl A ou ca nL pc (n + 1) pre f := by
  intro a wc ad H locs ls k j rest han hp hP hD hS hsz hW hk hj
  obtain ⟨q, a', rfl⟩ := hpa a wc hp
  exact va_runI (nL := nL) (Ts := Ts) (own := own) (bytes := bytes) (maxL := maxL) (n := n) (As := a'.map (am_v ad ou)) (b := ad q) ⟨X.1, X.2.1, X.2.2.1, X.2.2.2.1, X.2.2.2.2.1⟩ (hM ad H.size _ wc hp) ⟨callB_of n X.2.2.2.2.1 hG hw rfl rfl (X.2.2.2.2.1 _ hini) (X.2.2.2.2.1 _ hlk) hdd hR, hy1, X.2.2.2.2.1 _ hin⟩ (am_pre X hEs hEC hP hD hS) rfl (by rw [List.length_map]; simpa using han) hsz (by simp [am_v]) (lv_room hW) hd ⟨hk, hj⟩
theorem am_ck_V (X : am_X p s m args c cc own Ts D cl tys A nL ca nt) (hEs : E A s) (hEC : am_EC E) (hM : am_Met l E D cl tys ou ca y ws fr lo pre f) (hG : GoodIn Ts ws) (hw : ws = Jvm.Cond.code y bytes maxL ret :: ws') (hini : Jvm.Cond.initialized y.cls ∈ Ts) (hlk : Jvm.Cond.methodLink own idx y ∈ Ts) (hin : Jvm.Cond.instanceMethod y ∈ Ts) (hsel : Jvm.Cond.selects y.cls y y ∈ Ts) (hpa : ∀ a w, pre a w → ∃ q a' ci fs r, a = .inr (.inl q) :: a' ∧ w[q]? = some (.inr (ci, fs)) ∧ cl[ci]? = some r ∧ r.1 = y.cls)
    (hdd : y.cls ≠ "java/lang/invoke/MethodHandle" ∧ y.cls ≠ "java/lang/invoke/VarHandle" ∧ (parseMethodDescriptor y.desc).map (fun d => d.parameters.length) = some n) (hR : fr + 1 ≤ R.frames ∧ 8 + (maxL + 11) + lo ≤ R.locals) (hd : decode cc pc = .ok (.invokevirtual idx, 3)) : am_CK p l e R s m args below meth c D cl A ou ca nL pc (n + 1) pre f := by
  intro a wc ad H locs ls k j rest han hp hP hD hS hsz hW hk hj
  obtain ⟨q, a', ci, fs, r, rfl, hq, hc, hr⟩ := hpa a wc hp
  have hrec := va_recv X.2.2.2.2.2.1 hP hc (am_w_get hq)
  rw [hr] at hrec
  have hpre := am_pre (a := .inr (.inl q) :: a') X hEs hEC hP hD hS
  exact va_runV (C := y.cls) (nL := nL) (Ts := Ts) (own := own) (bytes := bytes) (maxL := maxL) (ret := ret) (n := n) (As := a'.map (am_v ad ou)) (b := ad q) ⟨X.1, X.2.1, X.2.2.1, X.2.2.2.1, X.2.2.2.2.1⟩ (hM ad H.size _ wc hp) ⟨callB_of n X.2.2.2.2.1 hG hw rfl rfl (X.2.2.2.2.1 _ hini) (X.2.2.2.2.1 _ hlk) hdd hR, X.2.2.2.2.1 _ hin, X.2.2.2.2.1 _ hsel⟩ ⟨hpre.1, hrec, hpre.2⟩ rfl (by rw [List.length_map]; simpa using han) hsz (by simp [am_v]) (lv_room hW) hd ⟨hk, hj⟩
end AMCK
/-! tables as lists -/
def am_as {α : Type} (l : List (Nat × α)) (i : Nat) : Option α := match l with
  | [] => none
  | q :: r => bif q.1 == i then some q.2 else am_as r i
theorem am_as_mem {α : Type} {l : List (Nat × α)} {i : Nat} {v : α} (h : am_as l i = some v) : (i, v) ∈ l := by
  induction l with
  | nil => cases h
  | cons q r ih =>
    unfold am_as at h
    cases hq : q.1 == i with
    | true =>
      rw [hq] at h
      have h1 : q.2 = v := Option.some.inj h
      have h2 : q.1 = i := by simpa using hq
      rw [← h1, ← h2]
      exact List.mem_cons_self
    | false =>
      rw [hq] at h
      exact List.mem_cons_of_mem _ (ih h)
theorem am_all0 {α : Type} {P : α → Prop} : ∀ q ∈ ([] : List α), P q := fun _ h => absurd h List.not_mem_nil
theorem am_allc {α : Type} {P : α → Prop} {a : α} {l : List α} (h : P a) (t : ∀ q ∈ l, P q) : ∀ q ∈ a :: l, P q := fun q hq => by
  rcases List.mem_cons.mp hq with e | e
  · rw [e]; exact h
  · exact t q e
end
section
/-! names, classes, fields; the words that all methods share -/
def gw_all : List Cond := lw_tbl.filter goodWord
theorem gw_mem {w : Cond} (i : Nat) (h : (lw_tbl[i]? == some w && goodWord w) = true) : w ∈ gw_all := by
  rw [Bool.and_eq_true] at h
  have h1 : lw_tbl[i]? = some w := by simpa using h.1
  exact List.mem_filter.mpr ⟨List.mem_of_getElem? h1, h.2⟩
theorem gw_good : ∀ w ∈ gw_all, goodWord w = true := fun w h => (List.mem_filter.mp h).2
theorem gw_ws {R : String} {F : u_T} {N : Nat} (ix : List Nat) (h : (List.range N).all (fun k => lw_tbl[ix.getD k 0]? == some (u_lay R F k) && goodWord (u_lay R F k)) = true) : ∀ w ∈ u_ws R F N, w ∈ gw_all := by
  intro w hw
  obtain ⟨k, hk, rfl⟩ := List.mem_map.mp hw
  exact gw_mem (ix.getD k 0) (List.all_eq_true.mp h k hk)
def hn_R0 : String := "HoleTemplates$Compilation"
def hn_T0 : u_T := fun k => match k with
  | 0 => ("HoleTemplates$Compilation", "symbols", "LHoleTemplates$Symbols;", true)
  | 1 => ("HoleTemplates$Compilation", "context", "LHoleTemplates$Context;", true)
  | 2 => ("HoleTemplates$Compilation", "holeCodes", "[I", true)
  | 3 => ("HoleTemplates$Compilation", "openSymbols", "[I", true)
  | 4 => ("HoleTemplates$Compilation", "openContexts", "[I", true)
  | 5 => ("HoleTemplates$Compilation", "turnContexts", "[I", true)
  | 6 => ("HoleTemplates$Compilation", "openCount", "I", false)
  | 7 => ("HoleTemplates$Compilation", "holeCount", "I", false)
  | 8 => ("HoleTemplates$Compilation", "faultPlace", "I", false)
  | _ => ("HoleTemplates$Compilation", "compiled", "Z", false)
def hn_y0 : Nat → FieldType := fun k => match k with
  | 0 => .object "HoleTemplates$Symbols"
  | 1 => .object "HoleTemplates$Context"
  | 2 => .array .int
  | 3 => .array .int
  | 4 => .array .int
  | 5 => .array .int
  | 6 => .int
  | 7 => .int
  | 8 => .int
  | _ => .boolean
theorem hn_nm0 : ∀ a, a < 10 → ∀ b, b < 10 → a ≠ b → (hn_T0 a).2.1 ≠ (hn_T0 b).2.1 := by decide +kernel
theorem hn_ok0 : ∀ k, k < 10 → parseFieldDescriptor (hn_T0 k).2.2.1 = some (hn_y0 k) := by decide +kernel
theorem hn_in0 : ∀ w ∈ u_ws hn_R0 hn_T0 10, w ∈ gw_all := gw_ws [230, 232, 234, 236, 238, 240, 242, 244, 246, 248] (by decide +kernel)
def hn_R1 : String := "HoleTemplates$Context"
def hn_T1 : u_T := fun k => match k with
  | 0 => ("HoleTemplates$Context", "name", "I", false)
  | 1 => ("HoleTemplates$Context", "element", "I", false)
  | 2 => ("HoleTemplates$Context", "quote", "C", false)
  | 3 => ("HoleTemplates$Context", "kind", "I", false)
  | _ => ("HoleTemplates$Context", "part", "I", false)
def hn_y1 : Nat → FieldType := fun k => match k with
  | 0 => .int
  | 1 => .int
  | 2 => .char
  | 3 => .int
  | _ => .int
theorem hn_nm1 : ∀ a, a < 5 → ∀ b, b < 5 → a ≠ b → (hn_T1 a).2.1 ≠ (hn_T1 b).2.1 := by decide +kernel
theorem hn_ok1 : ∀ k, k < 5 → parseFieldDescriptor (hn_T1 k).2.2.1 = some (hn_y1 k) := by decide +kernel
theorem hn_in1 : ∀ w ∈ u_ws hn_R1 hn_T1 5, w ∈ gw_all := gw_ws [205, 207, 209, 211, 213] (by decide +kernel)
def hn_R2 : String := "HoleTemplates$Items"
def hn_T2 : u_T := fun k => match k with
  | 0 => ("HoleTemplates$Items", "chars", "[C", true)
  | 1 => ("HoleTemplates$Items", "lengths", "[I", true)
  | 2 => ("HoleTemplates$Items", "counts", "[I", true)
  | _ => ("HoleTemplates$Items", "alone", "[I", true)
def hn_y2 : Nat → FieldType := fun k => match k with
  | 0 => .array .char
  | 1 => .array .int
  | 2 => .array .int
  | _ => .array .int
theorem hn_nm2 : ∀ a, a < 4 → ∀ b, b < 4 → a ≠ b → (hn_T2 a).2.1 ≠ (hn_T2 b).2.1 := by decide +kernel
theorem hn_ok2 : ∀ k, k < 4 → parseFieldDescriptor (hn_T2 k).2.2.1 = some (hn_y2 k) := by decide +kernel
theorem hn_in2 : ∀ w ∈ u_ws hn_R2 hn_T2 4, w ∈ gw_all := gw_ws [134, 136, 138, 140] (by decide +kernel)
def hn_R3 : String := "HoleTemplates$Pieces"
def hn_T3 : u_T := fun _ => ("", "", "", false)
def hn_y3 : Nat → FieldType := fun _ => .int
theorem hn_nm3 : ∀ a, a < 0 → ∀ b, b < 0 → a ≠ b → (hn_T3 a).2.1 ≠ (hn_T3 b).2.1 := by decide +kernel
theorem hn_ok3 : ∀ k, k < 0 → parseFieldDescriptor (hn_T3 k).2.2.1 = some (hn_y3 k) := by decide +kernel
theorem hn_in3 : ∀ w ∈ u_ws hn_R3 hn_T3 0, w ∈ gw_all := gw_ws [] (by decide +kernel)
def hn_R4 : String := "HoleTemplates$Signs"
def hn_T4 : u_T := fun _ => ("", "", "", false)
def hn_y4 : Nat → FieldType := fun _ => .int
theorem hn_nm4 : ∀ a, a < 0 → ∀ b, b < 0 → a ≠ b → (hn_T4 a).2.1 ≠ (hn_T4 b).2.1 := by decide +kernel
theorem hn_ok4 : ∀ k, k < 0 → parseFieldDescriptor (hn_T4 k).2.2.1 = some (hn_y4 k) := by decide +kernel
theorem hn_in4 : ∀ w ∈ u_ws hn_R4 hn_T4 0, w ∈ gw_all := gw_ws [] (by decide +kernel)
def hn_R5 : String := "HoleTemplates$Symbols"
def hn_T5 : u_T := fun k => match k with
  | 0 => ("HoleTemplates$Symbols", "kinds", "[I", true)
  | 1 => ("HoleTemplates$Symbols", "signs", "[C", true)
  | 2 => ("HoleTemplates$Symbols", "variables", "[I", true)
  | 3 => ("HoleTemplates$Symbols", "places", "[I", true)
  | 4 => ("HoleTemplates$Symbols", "turns", "[I", true)
  | 5 => ("HoleTemplates$Symbols", "closes", "[I", true)
  | 6 => ("HoleTemplates$Symbols", "codes", "[I", true)
  | 7 => ("HoleTemplates$Symbols", "count", "I", false)
  | _ => ("HoleTemplates$Symbols", "templateLength", "I", false)
def hn_y5 : Nat → FieldType := fun k => match k with
  | 0 => .array .int
  | 1 => .array .char
  | 2 => .array .int
  | 3 => .array .int
  | 4 => .array .int
  | 5 => .array .int
  | 6 => .array .int
  | 7 => .int
  | _ => .int
theorem hn_nm5 : ∀ a, a < 9 → ∀ b, b < 9 → a ≠ b → (hn_T5 a).2.1 ≠ (hn_T5 b).2.1 := by decide +kernel
theorem hn_ok5 : ∀ k, k < 9 → parseFieldDescriptor (hn_T5 k).2.2.1 = some (hn_y5 k) := by decide +kernel
theorem hn_in5 : ∀ w ∈ u_ws hn_R5 hn_T5 9, w ∈ gw_all := gw_ws [168, 170, 172, 174, 176, 178, 180, 182, 184] (by decide +kernel)
def hn_R6 : String := "HoleTemplates$Text"
def hn_T6 : u_T := fun k => match k with
  | 0 => ("HoleTemplates$Text", "chars", "[C", true)
  | 1 => ("HoleTemplates$Text", "length", "I", false)
  | _ => ("HoleTemplates$Text", "spilled", "Z", false)
def hn_y6 : Nat → FieldType := fun k => match k with
  | 0 => .array .char
  | 1 => .int
  | _ => .boolean
theorem hn_nm6 : ∀ a, a < 3 → ∀ b, b < 3 → a ≠ b → (hn_T6 a).2.1 ≠ (hn_T6 b).2.1 := by decide +kernel
theorem hn_ok6 : ∀ k, k < 3 → parseFieldDescriptor (hn_T6 k).2.2.1 = some (hn_y6 k) := by decide +kernel
theorem hn_in6 : ∀ w ∈ u_ws hn_R6 hn_T6 3, w ∈ gw_all := gw_ws [116, 118, 120] (by decide +kernel)
def hn_R7 : String := "HoleTemplates$Values"
def hn_T7 : u_T := fun _ => ("", "", "", false)
def hn_y7 : Nat → FieldType := fun _ => .int
theorem hn_nm7 : ∀ a, a < 0 → ∀ b, b < 0 → a ≠ b → (hn_T7 a).2.1 ≠ (hn_T7 b).2.1 := by decide +kernel
theorem hn_ok7 : ∀ k, k < 0 → parseFieldDescriptor (hn_T7 k).2.2.1 = some (hn_y7 k) := by decide +kernel
theorem hn_in7 : ∀ w ∈ u_ws hn_R7 hn_T7 0, w ∈ gw_all := gw_ws [] (by decide +kernel)
def hn_R8 : String := "HoleTemplates$Writer"
def hn_T8 : u_T := fun k => match k with
  | _ => ("HoleTemplates$Writer", "out", "LHoleTemplates$Text;", true)
def hn_y8 : Nat → FieldType := fun k => match k with
  | _ => .object "HoleTemplates$Text"
theorem hn_nm8 : ∀ a, a < 1 → ∀ b, b < 1 → a ≠ b → (hn_T8 a).2.1 ≠ (hn_T8 b).2.1 := by decide +kernel
theorem hn_ok8 : ∀ k, k < 1 → parseFieldDescriptor (hn_T8 k).2.2.1 = some (hn_y8 k) := by decide +kernel
theorem hn_in8 : ∀ w ∈ u_ws hn_R8 hn_T8 1, w ∈ gw_all := gw_ws [261] (by decide +kernel)
def hn_R9 : String := "HoleTemplates"
def hn_T9 : u_T := fun k => match k with
  | 0 => ("HoleTemplates", "row", "LHoleTemplates$Text;", true)
  | 1 => ("HoleTemplates", "template", "LHoleTemplates$Text;", true)
  | 2 => ("HoleTemplates", "items", "LHoleTemplates$Items;", true)
  | 3 => ("HoleTemplates", "compilation", "LHoleTemplates$Compilation;", true)
  | _ => ("HoleTemplates", "writer", "LHoleTemplates$Writer;", true)
def hn_y9 : Nat → FieldType := fun k => match k with
  | 0 => .object "HoleTemplates$Text"
  | 1 => .object "HoleTemplates$Text"
  | 2 => .object "HoleTemplates$Items"
  | 3 => .object "HoleTemplates$Compilation"
  | _ => .object "HoleTemplates$Writer"
theorem hn_nm9 : ∀ a, a < 5 → ∀ b, b < 5 → a ≠ b → (hn_T9 a).2.1 ≠ (hn_T9 b).2.1 := by decide +kernel
theorem hn_ok9 : ∀ k, k < 5 → parseFieldDescriptor (hn_T9 k).2.2.1 = some (hn_y9 k) := by decide +kernel
theorem hn_in9 : ∀ w ∈ u_ws hn_R9 hn_T9 5, w ∈ gw_all := gw_ws [269, 271, 273, 275, 277] (by decide +kernel)
def hn_R10 : String := "HoleTemplatesModel"
def hn_T10 : u_T := fun k => match k with
  | 0 => ("HoleTemplatesModel", "thrown", "I", false)
  | 1 => ("HoleTemplatesModel", "typed", "I", false)
  | 2 => ("HoleTemplatesModel", "row", "[C", false)
  | 3 => ("HoleTemplatesModel", "length", "I", false)
  | 4 => ("HoleTemplatesModel", "template", "[C", false)
  | 5 => ("HoleTemplatesModel", "symbols", "I", false)
  | 6 => ("HoleTemplatesModel", "sort", "[I", false)
  | 7 => ("HoleTemplatesModel", "sign", "[C", false)
  | 8 => ("HoleTemplatesModel", "place", "[I", false)
  | 9 => ("HoleTemplatesModel", "marked", "[I", false)
  | 10 => ("HoleTemplatesModel", "other", "[I", false)
  | 11 => ("HoleTemplatesModel", "closing", "[I", false)
  | 12 => ("HoleTemplatesModel", "opener", "[I", false)
  | 13 => ("HoleTemplatesModel", "compiled", "Z", false)
  | 14 => ("HoleTemplatesModel", "fault", "I", false)
  | 15 => ("HoleTemplatesModel", "holes", "I", false)
  | 16 => ("HoleTemplatesModel", "contexts", "[I", false)
  | 17 => ("HoleTemplatesModel", "context", "I", false)
  | 18 => ("HoleTemplatesModel", "element", "I", false)
  | 19 => ("HoleTemplatesModel", "quote", "C", false)
  | 20 => ("HoleTemplatesModel", "kind", "I", false)
  | 21 => ("HoleTemplatesModel", "part", "I", false)
  | 22 => ("HoleTemplatesModel", "open", "I", false)
  | 23 => ("HoleTemplatesModel", "opened", "[I", false)
  | 24 => ("HoleTemplatesModel", "before", "[I", false)
  | 25 => ("HoleTemplatesModel", "ended", "[I", false)
  | 26 => ("HoleTemplatesModel", "divided", "[Z", false)
  | 27 => ("HoleTemplatesModel", "counts", "[I", false)
  | 28 => ("HoleTemplatesModel", "lengths", "[I", false)
  | 29 => ("HoleTemplatesModel", "items", "[C", false)
  | 30 => ("HoleTemplatesModel", "alone", "[I", false)
  | 31 => ("HoleTemplatesModel", "deep", "I", false)
  | 32 => ("HoleTemplatesModel", "loops", "[I", false)
  | 33 => ("HoleTemplatesModel", "saved", "[I", false)
  | 34 => ("HoleTemplatesModel", "size", "I", false)
  | 35 => ("HoleTemplatesModel", "out", "[C", false)
  | _ => ("HoleTemplatesModel", "full", "Z", false)
def hn_y10 : Nat → FieldType := fun k => match k with
  | 0 => .int
  | 1 => .int
  | 2 => .array .char
  | 3 => .int
  | 4 => .array .char
  | 5 => .int
  | 6 => .array .int
  | 7 => .array .char
  | 8 => .array .int
  | 9 => .array .int
  | 10 => .array .int
  | 11 => .array .int
  | 12 => .array .int
  | 13 => .boolean
  | 14 => .int
  | 15 => .int
  | 16 => .array .int
  | 17 => .int
  | 18 => .int
  | 19 => .char
  | 20 => .int
  | 21 => .int
  | 22 => .int
  | 23 => .array .int
  | 24 => .array .int
  | 25 => .array .int
  | 26 => .array .boolean
  | 27 => .array .int
  | 28 => .array .int
  | 29 => .array .char
  | 30 => .array .int
  | 31 => .int
  | 32 => .array .int
  | 33 => .array .int
  | 34 => .int
  | 35 => .array .char
  | _ => .boolean
theorem hn_nm10 : ∀ a, a < 37 → ∀ b, b < 37 → a ≠ b → (hn_T10 a).2.1 ≠ (hn_T10 b).2.1 := by decide +kernel
theorem hn_ok10 : ∀ k, k < 37 → parseFieldDescriptor (hn_T10 k).2.2.1 = some (hn_y10 k) := by decide +kernel
theorem hn_in10 : ∀ w ∈ u_ws hn_R10 hn_T10 37, w ∈ gw_all := gw_ws [1009, 1011, 1013, 1015, 1017, 1019, 1021, 1023, 1025, 1027, 1029, 1031, 1033, 1035, 1037, 1039, 1041, 1043, 1045, 1047, 1049, 1051, 1053, 1055, 1057, 1059, 1061, 1063, 1065, 1067, 1069, 1071, 1073, 1075, 1077, 1079, 1081] (by decide +kernel)
abbrev hn_cl : List vw_C := [(hn_R0, hn_T0, 10), (hn_R1, hn_T1, 5), (hn_R2, hn_T2, 4), (hn_R3, hn_T3, 0), (hn_R4, hn_T4, 0), (hn_R5, hn_T5, 9), (hn_R6, hn_T6, 3), (hn_R7, hn_T7, 0), (hn_R8, hn_T8, 1), (hn_R9, hn_T9, 5), (hn_R10, hn_T10, 37)]
def hn_ty (c k : Nat) : FieldType := match c with
  | 0 => hn_y0 k
  | 1 => hn_y1 k
  | 2 => hn_y2 k
  | 3 => hn_y3 k
  | 4 => hn_y4 k
  | 5 => hn_y5 k
  | 6 => hn_y6 k
  | 7 => hn_y7 k
  | 8 => hn_y8 k
  | 9 => hn_y9 k
  | _ => hn_y10 k
/-- first values -/
def hn_d0 : List am_V := [.inr (.inr 0), .inr (.inr 0), .inr (.inr 0), .inr (.inr 0), .inr (.inr 0), .inr (.inr 0), .inl 0, .inl 0, .inl 0, .inl 0]
def hn_d1 : List am_V := [.inl 0, .inl 0, .inl 0, .inl 0, .inl 0]
def hn_d2 : List am_V := [.inr (.inr 0), .inr (.inr 0), .inr (.inr 0), .inr (.inr 0)]
def hn_d3 : List am_V := []
def hn_d4 : List am_V := []
def hn_d5 : List am_V := [.inr (.inr 0), .inr (.inr 0), .inr (.inr 0), .inr (.inr 0), .inr (.inr 0), .inr (.inr 0), .inr (.inr 0), .inl 0, .inl 0]
def hn_d6 : List am_V := [.inr (.inr 0), .inl 0, .inl 0]
def hn_d7 : List am_V := []
def hn_d8 : List am_V := [.inr (.inr 0)]
def hn_d9 : List am_V := [.inr (.inr 0), .inr (.inr 0), .inr (.inr 0), .inr (.inr 0), .inr (.inr 0)]
def hn_d10 : List am_V := [.inl 0, .inl 0, .inr (.inr 0), .inl 0, .inr (.inr 0), .inl 0, .inr (.inr 0), .inr (.inr 0), .inr (.inr 0), .inr (.inr 0), .inr (.inr 0), .inr (.inr 0), .inr (.inr 0), .inl 0, .inl 0, .inl 0, .inr (.inr 0), .inl 0, .inl 0, .inl 0, .inl 0, .inl 0, .inl 0, .inr (.inr 0), .inr (.inr 0), .inr (.inr 0), .inr (.inr 0), .inr (.inr 0), .inr (.inr 0), .inr (.inr 0), .inr (.inr 0), .inl 0, .inr (.inr 0), .inr (.inr 0), .inl 0, .inr (.inr 0), .inl 0]
end
section
def kf_Text : List (Nat × Nat × Nat × Nat) := [(15, 6, 0, 3), (21, 6, 1, 0), (25, 6, 2, 0)]
def kd_put : List (Nat × Instr × Nat) := [(0, .aload_n 0, 1), (1, .getfield 21, 3), (4, .aload_n 0, 1), (5, .getfield 15, 3), (8, .arraylength, 1), (9, .if_icmp .lt 10, 3), (12, .aload_n 0, 1), (13, .iconst 1, 1), (14, .putfield 25, 3), (17, .iconst 0, 1), (18, .ireturn, 1), (19, .aload_n 0, 1), (20, .getfield 15, 3), (23, .aload_n 0, 1), (24, .getfield 21, 3), (27, .iload_n 1, 1), (28, .castore, 1), (29, .aload_n 0, 1), (30, .dup, 1), (31, .getfield 21, 3), (34, .iconst 1, 1), (35, .iadd, 1), (36, .putfield 21, 3), (39, .iconst 1, 1), (40, .ireturn, 1)]
theorem kd_put_ok : ∀ q ∈ kd_put, decode prog_8_method_2_code q.1 = .ok q.2 := by decide +kernel
def kb_put : am_B := (kd_put, am_as kf_Text, hn_ty, fun _ => none, fun _ => none, fun _ => none, fun _ => none, 2, 2, some .boolean)
def kw_Text (n : Nat) (len sp : Int32) (f : Nat → Int32) : List am_C := [.inr (6, [.inr (.inl 1), .inl len, .inl sp]), .inl (1, n, f)]
set_option maxRecDepth 10000 in
theorem t_put {n : Nat} {len sp c : Int32} {f : Nat → Int32} (h1 : am_inb len n = true) (h2 : len < Int32.ofNat n) : am_ev (am_mk kb_put 0 0 2) [] 1 (0, am_L0 [.inr (.inl 0), .inl c] 2, [], kw_Text n len sp f, 0, 0) = some (some (.inl 1), kw_Text n (len + 1) sp (upd f len.toNatClampNeg (vp_nar .char c))) := by
  refine am_if (fun _ => ?_) (fun h => absurd h2 h)
  refine am_ci h1 ?_
  rfl
end
